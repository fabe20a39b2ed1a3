def f_mo_claim_L5 (w_pr : (Nat → Int32)) (w_pn : (Nat → Int32)) (w_se : (Nat → Int32)) (w_en : (Nat → Int32)) (p0 : Int32) : Nat → Nat → Int32 → Int32 × (Nat → Int32) × (Nat → Int32)
  | 0, i, z5_0 => (if z5_0 ≤ 0 then (z5_0, w_pn, w_se) else (z5_0, upd w_pn (z5_0 : Int32).toNatClampNeg (vp_nar .boolean (0 : Int32)), upd w_se (z5_0 : Int32).toNatClampNeg (p0 + (1 : Int32))))
  | n + 1, i, z5_0 => (if (w_pn (nI (n + 1) : Int32).toNatClampNeg) = 0 then (f_mo_claim_L5 w_pr w_pn w_se w_en p0 n (i + 1) z5_0) else (if (f_mo_isEnabled w_en p0 (nI (n + 1))) = 0 then (f_mo_claim_L5 w_pr w_pn w_se w_en p0 n (i + 1) z5_0) else (if (w_pr (nI (n + 1) : Int32).toNatClampNeg) ≤ 0 then (f_mo_claim_L5 w_pr w_pn w_se w_en p0 n (i + 1) z5_0) else (if z5_0 = 0 then (f_mo_claim_L5 w_pr w_pn w_se w_en p0 n (i + 1) (nI (n + 1))) else (if (w_pr (nI (n + 1) : Int32).toNatClampNeg) < (w_pr (z5_0 : Int32).toNatClampNeg) then (f_mo_claim_L5 w_pr w_pn w_se w_en p0 n (i + 1) z5_0) else (f_mo_claim_L5 w_pr w_pn w_se w_en p0 n (i + 1) (nI (n + 1))))))))
def f_mo_claim (w_pr : (Nat → Int32)) (w_pn : (Nat → Int32)) (w_se : (Nat → Int32)) (w_en : (Nat → Int32)) (p0 : Int32) : Int32 × (Nat → Int32) × (Nat → Int32) := (f_mo_claim_L5 w_pr w_pn w_se w_en p0 15 0 (0 : Int32))
set_option maxHeartbeats 4000000 in
set_option maxRecDepth 100000 in
theorem c_mo_claim (l : Launch) (D : va_G) (k : k3) (g0 : Nat) (g1 : Nat) (g2 : Nat) (g3 : Nat) (g4 : Nat) (g5 : Nat) (g6 : Nat) (g7 : Nat) (g8 : Nat) (g9 : Nat) (gA : Nat) (gB : Nat) (sz : Nat) (w_th : Int32) (w_pv : Int32) (w_pc : Int32) (w_ti : Int64) (w_co : Int64) (w_so : Int32) (w_st : Int32) (w_ge : Int32) (w_gi : Int32) (w_wn : Int32) (w_wr : Int32) (w_ed : (Nat → Int32)) (w_li : (Nat → Int32)) (w_pr : (Nat → Int32)) (w_pn : (Nat → Int32)) (w_se : (Nat → Int32)) (w_wa : (Nat → Int32)) (w_en : (Nat → Int32)) (w_tt : (Nat → Int32)) (w_ve : (Nat → Int32)) (w_ba : (Nat → Int32)) (w_ca : (Nat → Int32)) (p0 : Int32) (hc : vp_in p0 2) : Met l y_mo_claim (Cond.code y_mo_claim b_mo_claim 4 (some .int) :: uW) ({ frames := 1, cells := 0, slots := 0, locals := 22 }) (va_Pc [.ref g0, .int p0] (pr_ D k sz [(g0, .inr (8, [.int w_th, .int w_pv, .int w_pc, .ref g1, .ref g2, .ref g3, .ref g4, .ref g5, .ref g6, .ref g7, .ref g8, .long w_ti, .long w_co, .int w_so, .int w_st, .int w_ge, .int w_gi, .int w_wn, .int w_wr, .ref g9, .ref gA, .ref gB])), (g1, .inl (k.2.1, 16, .inl w_ed)), (g2, .inl (k.2.1, 16, .inl w_li)), (g3, .inl (k.1, 16, .inl w_pr)), (g4, .inl (k.2.1, 16, .inl w_pn)), (g5, .inl (k.1, 16, .inl w_se)), (g6, .inl (k.1, 16, .inl w_wa)), (g7, .inl (k.1, 2, .inl w_en)), (g8, .inl (k.1, 2, .inl w_tt)), (g9, .inl (k.1, 2, .inl w_ve)), (gA, .inl (k.1, 2, .inl w_ba)), (gB, .inl (k.1, 2, .inl w_ca))])) (va_Qi (fun (r : Int32) (_ : Unit) => r = (f_mo_claim w_pr w_pn w_se w_en p0).1) (fun _ t => po_ D k (va_A [(g0, .inr (8, [.int w_th, .int w_pv, .int w_pc, .ref g1, .ref g2, .ref g3, .ref g4, .ref g5, .ref g6, .ref g7, .ref g8, .long w_ti, .long w_co, .int w_so, .int w_st, .int w_ge, .int w_gi, .int w_wn, .int w_wr, .ref g9, .ref gA, .ref gB])), (g1, .inl (k.2.1, 16, .inl w_ed)), (g2, .inl (k.2.1, 16, .inl w_li)), (g3, .inl (k.1, 16, .inl w_pr)), (g4, .inl (k.2.1, 16, .inl w_pn)), (g5, .inl (k.1, 16, .inl w_se)), (g6, .inl (k.1, 16, .inl w_wa)), (g7, .inl (k.1, 2, .inl w_en)), (g8, .inl (k.1, 2, .inl w_tt)), (g9, .inl (k.1, 2, .inl w_ve)), (gA, .inl (k.1, 2, .inl w_ba)), (gB, .inl (k.1, 2, .inl w_ca))] sz) [(g0, .inr (8, [.int w_th, .int w_pv, .int w_pc, .ref g1, .ref g2, .ref g3, .ref g4, .ref g5, .ref g6, .ref g7, .ref g8, .long w_ti, .long w_co, .int w_so, .int w_st, .int w_ge, .int w_gi, .int w_wn, .int w_wr, .ref g9, .ref gA, .ref gB])), (g1, .inl (k.2.1, 16, .inl w_ed)), (g2, .inl (k.2.1, 16, .inl w_li)), (g3, .inl (k.1, 16, .inl w_pr)), (g4, .inl (k.2.1, 16, .inl ((f_mo_claim w_pr w_pn w_se w_en p0).2.1))), (g5, .inl (k.1, 16, .inl ((f_mo_claim w_pr w_pn w_se w_en p0).2.2))), (g6, .inl (k.1, 16, .inl w_wa)), (g7, .inl (k.1, 2, .inl w_en)), (g8, .inl (k.1, 2, .inl w_tt)), (g9, .inl (k.1, 2, .inl w_ve)), (gA, .inl (k.1, 2, .inl w_ba)), (gB, .inl (k.1, 2, .inl w_ca))] t) (va_A [(g0, .inr (8, [.int w_th, .int w_pv, .int w_pc, .ref g1, .ref g2, .ref g3, .ref g4, .ref g5, .ref g6, .ref g7, .ref g8, .long w_ti, .long w_co, .int w_so, .int w_st, .int w_ge, .int w_gi, .int w_wn, .int w_wr, .ref g9, .ref gA, .ref gB])), (g1, .inl (k.2.1, 16, .inl w_ed)), (g2, .inl (k.2.1, 16, .inl w_li)), (g3, .inl (k.1, 16, .inl w_pr)), (g4, .inl (k.2.1, 16, .inl w_pn)), (g5, .inl (k.1, 16, .inl w_se)), (g6, .inl (k.1, 16, .inl w_wa)), (g7, .inl (k.1, 2, .inl w_en)), (g8, .inl (k.1, 2, .inl w_tt)), (g9, .inl (k.1, 2, .inl w_ve)), (gA, .inl (k.1, 2, .inl w_ba)), (gB, .inl (k.1, 2, .inl w_ca))] sz)) 0 0 (va_A [(g0, .inr (8, [.int w_th, .int w_pv, .int w_pc, .ref g1, .ref g2, .ref g3, .ref g4, .ref g5, .ref g6, .ref g7, .ref g8, .long w_ti, .long w_co, .int w_so, .int w_st, .int w_ge, .int w_gi, .int w_wn, .int w_wr, .ref g9, .ref gA, .ref gB])), (g1, .inl (k.2.1, 16, .inl w_ed)), (g2, .inl (k.2.1, 16, .inl w_li)), (g3, .inl (k.1, 16, .inl w_pr)), (g4, .inl (k.2.1, 16, .inl w_pn)), (g5, .inl (k.1, 16, .inl w_se)), (g6, .inl (k.1, 16, .inl w_wa)), (g7, .inl (k.1, 2, .inl w_en)), (g8, .inl (k.1, 2, .inl w_tt)), (g9, .inl (k.1, 2, .inl w_ve)), (gA, .inl (k.1, 2, .inl w_ba)), (gB, .inl (k.1, 2, .inl w_ca))] sz) := by
  refine en_ (by decide) ?_
  intro p e s m below meth c hsz hx hb hr hml hown hts hlocks hin hP hK hD hN hV
  subst hsz
  generalize hAe : va_A [(g0, .inr (8, [.int w_th, .int w_pv, .int w_pc, .ref g1, .ref g2, .ref g3, .ref g4, .ref g5, .ref g6, .ref g7, .ref g8, .long w_ti, .long w_co, .int w_so, .int w_st, .int w_ge, .int w_gi, .int w_wn, .int w_wr, .ref g9, .ref gA, .ref gB])), (g1, .inl (k.2.1, 16, .inl w_ed)), (g2, .inl (k.2.1, 16, .inl w_li)), (g3, .inl (k.1, 16, .inl w_pr)), (g4, .inl (k.2.1, 16, .inl w_pn)), (g5, .inl (k.1, 16, .inl w_se)), (g6, .inl (k.1, 16, .inl w_wa)), (g7, .inl (k.1, 2, .inl w_en)), (g8, .inl (k.1, 2, .inl w_tt)), (g9, .inl (k.1, 2, .inl w_ve)), (gA, .inl (k.1, 2, .inl w_ba)), (gB, .inl (k.1, 2, .inl w_ca))] s.heap.size = A at hD hV ⊢
  have hA : ∀ q : Nat, s.heap.size ≤ q → A q := fun q h => by rw [← hAe]; exact Or.inr h
  have hS : va_S A s.heap s.heap [] := va_S.rf
  have hF : f_mo_claim w_pr w_pn w_se w_en p0 = f_mo_claim w_pr w_pn w_se w_en p0 := rfl
  have hl := lv_entry ([.ref g0, .int p0]) (n := 4) (Nat.le_of_ble_eq_true rfl)
  rw [lg_entry_eq]
  generalize (lg_sl ([.ref g0, .int p0]) ++ List.replicate (4 - (lg_sl ([.ref g0, .int p0])).length) Slot.unset).toArray = ls at hl ⊢
  have hl : lv_has ls 4 [(0, .ref g0), (1, .int p0)] := hl
  obtain ⟨H, hH⟩ : ∃ z, z = s.heap := ⟨_, rfl⟩
  have hP : va_P D cls [(g0, .inr (8, [.int w_th, .int w_pv, .int w_pc, .ref g1, .ref g2, .ref g3, .ref g4, .ref g5, .ref g6, .ref g7, .ref g8, .long w_ti, .long w_co, .int w_so, .int w_st, .int w_ge, .int w_gi, .int w_wn, .int w_wr, .ref g9, .ref gA, .ref gB])), (g1, .inl (k.2.1, 16, .inl w_ed)), (g2, .inl (k.2.1, 16, .inl w_li)), (g3, .inl (k.1, 16, .inl w_pr)), (g4, .inl (k.2.1, 16, .inl w_pn)), (g5, .inl (k.1, 16, .inl w_se)), (g6, .inl (k.1, 16, .inl w_wa)), (g7, .inl (k.1, 2, .inl w_en)), (g8, .inl (k.1, 2, .inl w_tt)), (g9, .inl (k.1, 2, .inl w_ve)), (gA, .inl (k.1, 2, .inl w_ba)), (gB, .inl (k.1, 2, .inl w_ca))] H := by rw [hH]; exact hP
  have hS : va_S A s.heap H [] := by rw [hH]; exact hS
  refine wH_ hH ?_
  refine lv_iconst (v := (0 : Int32)) hx hb d_mo_claim_0 (by decide) ?_
  refine lv_istore_n (lv' := [(2, .int (0 : Int32)), (0, .ref g0), (1, .int p0)]) hx hb d_mo_claim_1 rfl hl (by decide) rfl (fun ls hl => ?_)
  refine lv_bipush (v := (15 : Int32)) hx hb d_mo_claim_2 (by decide) ?_
  refine lv_istore_n (lv' := [(3, .int (15 : Int32)), (2, .int (0 : Int32)), (0, .ref g0), (1, .int p0)]) hx hb d_mo_claim_4 rfl hl (by decide) rfl (fun ls hl => ?_)
  refine lp_ (X := Int32) (A := A) (D := D) (H0 := s.heap) (fun x9 : Int32 => [(g0, .inr (8, [.int w_th, .int w_pv, .int w_pc, .ref g1, .ref g2, .ref g3, .ref g4, .ref g5, .ref g6, .ref g7, .ref g8, .long w_ti, .long w_co, .int w_so, .int w_st, .int w_ge, .int w_gi, .int w_wn, .int w_wr, .ref g9, .ref gA, .ref gB])), (g1, .inl (k.2.1, 16, .inl w_ed)), (g2, .inl (k.2.1, 16, .inl w_li)), (g3, .inl (k.1, 16, .inl w_pr)), (g4, .inl (k.2.1, 16, .inl w_pn)), (g5, .inl (k.1, 16, .inl w_se)), (g6, .inl (k.1, 16, .inl w_wa)), (g7, .inl (k.1, 2, .inl w_en)), (g8, .inl (k.1, 2, .inl w_tt)), (g9, .inl (k.1, 2, .inl w_ve)), (gA, .inl (k.1, 2, .inl w_ba)), (gB, .inl (k.1, 2, .inl w_ca))]) (fun n9 i9 (x9 : Int32) => [(3, .int (nI n9)), (2, .int x9), (0, .ref g0), (1, .int p0)]) (fun n9 i9 (x9 : Int32) => f_mo_claim w_pr w_pn w_se w_en p0 = f_mo_claim_L5 w_pr w_pn w_se w_en p0 n9 i9 x9 ∧ vp_in x9 16) 5 4 15 (fun i x9 H locs ls hi hF hP hD hS hl => ?_) (fun n i x9 H locs ls hi hF hP hD hS hl ih => ?_) 15 0 (0 : Int32) _ _ _ rfl ⟨by rw [hF]; unfold f_mo_claim; rfl, (by unfold vp_in; decide)⟩ (hP.sub [0, 1, 2, 3, 4, 5, 6, 7, 8, 9, 10, 11] rfl) (hD.sub [0, 1, 2, 3, 4, 5, 6, 7, 8, 9, 10, 11] (by decide) rfl) hS (lv_sub hl [0, 1, 2, 3] rfl)
  · obtain ⟨z5_0, rfl⟩ : ∃ z, z = x9 := ⟨_, rfl⟩
    obtain ⟨hF, hI⟩ := hF
    have hI : vp_in z5_0 16 := hI
    have hF : f_mo_claim w_pr w_pn w_se w_en p0 = f_mo_claim_L5 w_pr w_pn w_se w_en p0 0 i z5_0 := hF
    have hP : va_P D cls [(g0, .inr (8, [.int w_th, .int w_pv, .int w_pc, .ref g1, .ref g2, .ref g3, .ref g4, .ref g5, .ref g6, .ref g7, .ref g8, .long w_ti, .long w_co, .int w_so, .int w_st, .int w_ge, .int w_gi, .int w_wn, .int w_wr, .ref g9, .ref gA, .ref gB])), (g1, .inl (k.2.1, 16, .inl w_ed)), (g2, .inl (k.2.1, 16, .inl w_li)), (g3, .inl (k.1, 16, .inl w_pr)), (g4, .inl (k.2.1, 16, .inl w_pn)), (g5, .inl (k.1, 16, .inl w_se)), (g6, .inl (k.1, 16, .inl w_wa)), (g7, .inl (k.1, 2, .inl w_en)), (g8, .inl (k.1, 2, .inl w_tt)), (g9, .inl (k.1, 2, .inl w_ve)), (gA, .inl (k.1, 2, .inl w_ba)), (gB, .inl (k.1, 2, .inl w_ca))] H := hP
    have hD : va_D A [(g0, .inr (8, [.int w_th, .int w_pv, .int w_pc, .ref g1, .ref g2, .ref g3, .ref g4, .ref g5, .ref g6, .ref g7, .ref g8, .long w_ti, .long w_co, .int w_so, .int w_st, .int w_ge, .int w_gi, .int w_wn, .int w_wr, .ref g9, .ref gA, .ref gB])), (g1, .inl (k.2.1, 16, .inl w_ed)), (g2, .inl (k.2.1, 16, .inl w_li)), (g3, .inl (k.1, 16, .inl w_pr)), (g4, .inl (k.2.1, 16, .inl w_pn)), (g5, .inl (k.1, 16, .inl w_se)), (g6, .inl (k.1, 16, .inl w_wa)), (g7, .inl (k.1, 2, .inl w_en)), (g8, .inl (k.1, 2, .inl w_tt)), (g9, .inl (k.1, 2, .inl w_ve)), (gA, .inl (k.1, 2, .inl w_ba)), (gB, .inl (k.1, 2, .inl w_ca))] := hD
    have hl : lv_has ls 4 [(3, .int (nI 0)), (2, .int z5_0), (0, .ref g0), (1, .int p0)] := hl
    refine lv_iload_n hx hb d_mo_claim_5 rfl (lv_at hl 0 rfl) ?_
    refine lv_if_le (tgt := 63) hx hb d_mo_claim_6 (by decide) (fun c9 => ?_) (fun c9 => absurd (by decide) c9)
    refine lv_iload_n hx hb d_mo_claim_63 rfl (lv_at hl 1 rfl) ?_
    refine lv_if_le (tgt := 83) hx hb d_mo_claim_64 (by decide) (fun c1 => ?_) (fun c1 => ?_)
    · refine lv_iload_n hx hb d_mo_claim_83 rfl (lv_at hl 1 rfl) ?_
      have hE : f_mo_claim w_pr w_pn w_se w_en p0 = (z5_0, w_pn, w_se) := by
        rw [hF, f_mo_claim_L5, if_pos c1]
      rw [hE]
      exact rt_i hx hb hr hlocks hP hD hK hS [0, 1, 2, 3, 4, 5, 6, 7, 8, 9, 10, 11] rfl (by decide) rfl rfl d_mo_claim_84
    · refine lv_aload_n hx hb d_mo_claim_67 rfl (lv_at hl 2 rfl) ?_
      refine va_get (D := D) (ci := 8) (v := .ref g4) (C := R_mo) (T := T_mo) (N := 22) hx hb hts iu_mo hown hK hP 0 rfl rfl 6 (by decide) (hts _ m_612) (fun _ h9 => h9) rfl d_mo_claim_68 ?_
      refine lv_iload_n hx hb d_mo_claim_71 rfl (lv_at hl 1 rfl) ?_
      refine lv_iconst (v := (0 : Int32)) hx hb d_mo_claim_72 (by decide) ?_
      refine va_zast hx hb hK hP hD hS 4 1 rfl rfl hI d_mo_claim_73 (fun H locs hP hD hS => ?_)
      have hP : va_P D cls [(g0, .inr (8, [.int w_th, .int w_pv, .int w_pc, .ref g1, .ref g2, .ref g3, .ref g4, .ref g5, .ref g6, .ref g7, .ref g8, .long w_ti, .long w_co, .int w_so, .int w_st, .int w_ge, .int w_gi, .int w_wn, .int w_wr, .ref g9, .ref gA, .ref gB])), (g1, .inl (k.2.1, 16, .inl w_ed)), (g2, .inl (k.2.1, 16, .inl w_li)), (g3, .inl (k.1, 16, .inl w_pr)), (g4, .inl (k.2.1, 16, .inl (upd w_pn (z5_0 : Int32).toNatClampNeg (vp_nar .boolean (0 : Int32))))), (g5, .inl (k.1, 16, .inl w_se)), (g6, .inl (k.1, 16, .inl w_wa)), (g7, .inl (k.1, 2, .inl w_en)), (g8, .inl (k.1, 2, .inl w_tt)), (g9, .inl (k.1, 2, .inl w_ve)), (gA, .inl (k.1, 2, .inl w_ba)), (gB, .inl (k.1, 2, .inl w_ca))] H := hP
      have hD : va_D A [(g0, .inr (8, [.int w_th, .int w_pv, .int w_pc, .ref g1, .ref g2, .ref g3, .ref g4, .ref g5, .ref g6, .ref g7, .ref g8, .long w_ti, .long w_co, .int w_so, .int w_st, .int w_ge, .int w_gi, .int w_wn, .int w_wr, .ref g9, .ref gA, .ref gB])), (g1, .inl (k.2.1, 16, .inl w_ed)), (g2, .inl (k.2.1, 16, .inl w_li)), (g3, .inl (k.1, 16, .inl w_pr)), (g4, .inl (k.2.1, 16, .inl (upd w_pn (z5_0 : Int32).toNatClampNeg (vp_nar .boolean (0 : Int32))))), (g5, .inl (k.1, 16, .inl w_se)), (g6, .inl (k.1, 16, .inl w_wa)), (g7, .inl (k.1, 2, .inl w_en)), (g8, .inl (k.1, 2, .inl w_tt)), (g9, .inl (k.1, 2, .inl w_ve)), (gA, .inl (k.1, 2, .inl w_ba)), (gB, .inl (k.1, 2, .inl w_ca))] := hD
      refine lv_aload_n hx hb d_mo_claim_74 rfl (lv_at hl 2 rfl) ?_
      refine va_get (D := D) (ci := 8) (v := .ref g5) (C := R_mo) (T := T_mo) (N := 22) hx hb hts iu_mo hown hK hP 0 rfl rfl 7 (by decide) (hts _ m_613) (fun _ h9 => h9) rfl d_mo_claim_75 ?_
      refine lv_iload_n hx hb d_mo_claim_78 rfl (lv_at hl 1 rfl) ?_
      refine lv_iload_n hx hb d_mo_claim_79 rfl (lv_at hl 3 rfl) ?_
      refine lv_iconst (v := (1 : Int32)) hx hb d_mo_claim_80 (by decide) ?_
      refine lv_iadd hx hb d_mo_claim_81 ?_
      refine va_iast hx hb hK hP hD hS 5 0 rfl rfl hI d_mo_claim_82 (fun H locs hP hD hS => ?_)
      have hP : va_P D cls [(g0, .inr (8, [.int w_th, .int w_pv, .int w_pc, .ref g1, .ref g2, .ref g3, .ref g4, .ref g5, .ref g6, .ref g7, .ref g8, .long w_ti, .long w_co, .int w_so, .int w_st, .int w_ge, .int w_gi, .int w_wn, .int w_wr, .ref g9, .ref gA, .ref gB])), (g1, .inl (k.2.1, 16, .inl w_ed)), (g2, .inl (k.2.1, 16, .inl w_li)), (g3, .inl (k.1, 16, .inl w_pr)), (g4, .inl (k.2.1, 16, .inl (upd w_pn (z5_0 : Int32).toNatClampNeg (vp_nar .boolean (0 : Int32))))), (g5, .inl (k.1, 16, .inl (upd w_se (z5_0 : Int32).toNatClampNeg (p0 + (1 : Int32))))), (g6, .inl (k.1, 16, .inl w_wa)), (g7, .inl (k.1, 2, .inl w_en)), (g8, .inl (k.1, 2, .inl w_tt)), (g9, .inl (k.1, 2, .inl w_ve)), (gA, .inl (k.1, 2, .inl w_ba)), (gB, .inl (k.1, 2, .inl w_ca))] H := hP
      have hD : va_D A [(g0, .inr (8, [.int w_th, .int w_pv, .int w_pc, .ref g1, .ref g2, .ref g3, .ref g4, .ref g5, .ref g6, .ref g7, .ref g8, .long w_ti, .long w_co, .int w_so, .int w_st, .int w_ge, .int w_gi, .int w_wn, .int w_wr, .ref g9, .ref gA, .ref gB])), (g1, .inl (k.2.1, 16, .inl w_ed)), (g2, .inl (k.2.1, 16, .inl w_li)), (g3, .inl (k.1, 16, .inl w_pr)), (g4, .inl (k.2.1, 16, .inl (upd w_pn (z5_0 : Int32).toNatClampNeg (vp_nar .boolean (0 : Int32))))), (g5, .inl (k.1, 16, .inl (upd w_se (z5_0 : Int32).toNatClampNeg (p0 + (1 : Int32))))), (g6, .inl (k.1, 16, .inl w_wa)), (g7, .inl (k.1, 2, .inl w_en)), (g8, .inl (k.1, 2, .inl w_tt)), (g9, .inl (k.1, 2, .inl w_ve)), (gA, .inl (k.1, 2, .inl w_ba)), (gB, .inl (k.1, 2, .inl w_ca))] := hD
      refine lv_iload_n hx hb d_mo_claim_83 rfl (lv_at hl 1 rfl) ?_
      have hE : f_mo_claim w_pr w_pn w_se w_en p0 = (z5_0, upd w_pn (z5_0 : Int32).toNatClampNeg (vp_nar .boolean (0 : Int32)), upd w_se (z5_0 : Int32).toNatClampNeg (p0 + (1 : Int32))) := by
        rw [hF, f_mo_claim_L5, if_neg c1]
      rw [hE]
      exact rt_i hx hb hr hlocks hP hD hK hS [0, 1, 2, 3, 4, 5, 6, 7, 8, 9, 10, 11] rfl (by decide) rfl rfl d_mo_claim_84
  · obtain ⟨z5_0, rfl⟩ : ∃ z, z = x9 := ⟨_, rfl⟩
    obtain ⟨hF, hI⟩ := hF
    have hI : vp_in z5_0 16 := hI
    have hF : f_mo_claim w_pr w_pn w_se w_en p0 = f_mo_claim_L5 w_pr w_pn w_se w_en p0 (n + 1) i z5_0 := hF
    have hP : va_P D cls [(g0, .inr (8, [.int w_th, .int w_pv, .int w_pc, .ref g1, .ref g2, .ref g3, .ref g4, .ref g5, .ref g6, .ref g7, .ref g8, .long w_ti, .long w_co, .int w_so, .int w_st, .int w_ge, .int w_gi, .int w_wn, .int w_wr, .ref g9, .ref gA, .ref gB])), (g1, .inl (k.2.1, 16, .inl w_ed)), (g2, .inl (k.2.1, 16, .inl w_li)), (g3, .inl (k.1, 16, .inl w_pr)), (g4, .inl (k.2.1, 16, .inl w_pn)), (g5, .inl (k.1, 16, .inl w_se)), (g6, .inl (k.1, 16, .inl w_wa)), (g7, .inl (k.1, 2, .inl w_en)), (g8, .inl (k.1, 2, .inl w_tt)), (g9, .inl (k.1, 2, .inl w_ve)), (gA, .inl (k.1, 2, .inl w_ba)), (gB, .inl (k.1, 2, .inl w_ca))] H := hP
    have hD : va_D A [(g0, .inr (8, [.int w_th, .int w_pv, .int w_pc, .ref g1, .ref g2, .ref g3, .ref g4, .ref g5, .ref g6, .ref g7, .ref g8, .long w_ti, .long w_co, .int w_so, .int w_st, .int w_ge, .int w_gi, .int w_wn, .int w_wr, .ref g9, .ref gA, .ref gB])), (g1, .inl (k.2.1, 16, .inl w_ed)), (g2, .inl (k.2.1, 16, .inl w_li)), (g3, .inl (k.1, 16, .inl w_pr)), (g4, .inl (k.2.1, 16, .inl w_pn)), (g5, .inl (k.1, 16, .inl w_se)), (g6, .inl (k.1, 16, .inl w_wa)), (g7, .inl (k.1, 2, .inl w_en)), (g8, .inl (k.1, 2, .inl w_tt)), (g9, .inl (k.1, 2, .inl w_ve)), (gA, .inl (k.1, 2, .inl w_ba)), (gB, .inl (k.1, 2, .inl w_ca))] := hD
    have hl : lv_has ls 4 [(3, .int (nI (n + 1))), (2, .int z5_0), (0, .ref g0), (1, .int p0)] := hl
    refine lv_iload_n hx hb d_mo_claim_5 rfl (lv_at hl 0 rfl) ?_
    refine lv_if_le (tgt := 63) hx hb d_mo_claim_6 (by decide) (fun c9 => absurd c9 (nI_nle (n := n + 1) (by omega) (by omega))) (fun c9 => ?_)
    refine lv_aload_n hx hb d_mo_claim_9 rfl (lv_at hl 2 rfl) ?_
    refine va_get (D := D) (ci := 8) (v := .ref g4) (C := R_mo) (T := T_mo) (N := 22) hx hb hts iu_mo hown hK hP 0 rfl rfl 6 (by decide) (hts _ m_612) (fun _ h9 => h9) rfl d_mo_claim_10 ?_
    refine lv_iload_n hx hb d_mo_claim_13 rfl (lv_at hl 0 rfl) ?_
    refine va_zald hx hb hK hP 4 1 rfl rfl (vp_in_nI (by omega) (by decide)) d_mo_claim_14 ?_
    refine lv_if_eq (tgt := 57) hx hb d_mo_claim_15 (by decide) (fun c1 => ?_) (fun c1 => ?_)
    · refine lv_iinc (v := nI n) (lv' := [(3, .int (nI n)), (2, .int z5_0), (0, .ref g0), (1, .int p0)]) hx hb d_mo_claim_57 hl (k := 0) rfl (pk_m1 n) (by decide) rfl (fun ls hl => ?_)
      refine lv_goto (tgt := 5) hx hb d_mo_claim_60 (by decide) ?_
      exact ih z5_0 _ _ _ ⟨by rw [hF, f_mo_claim_L5, if_pos c1], (by first | exact hI | exact vp_in_nI (by omega) (by decide))⟩ (hP.sub [0, 1, 2, 3, 4, 5, 6, 7, 8, 9, 10, 11] rfl) (hD.sub [0, 1, 2, 3, 4, 5, 6, 7, 8, 9, 10, 11] (by decide) rfl) hS (lv_sub hl [0, 1, 2, 3] rfl)
    · refine lv_aload_n hx hb d_mo_claim_18 rfl (lv_at hl 2 rfl) ?_
      refine lv_iload_n hx hb d_mo_claim_19 rfl (lv_at hl 3 rfl) ?_
      refine lv_iload_n hx hb d_mo_claim_20 rfl (lv_at hl 0 rfl) ?_
      refine fn_i (rn_V (own := "TrapHartModel") (index := 64) (n := 2) (C := "TrapHartModel") (As := [.int p0, .int (nI (n + 1))]) (rest := []) (isC := [0, 1, 2, 3, 4, 5, 6, 7, 8, 9, 10, 11]) (ws := [(g0, .inr (8, [.int w_th, .int w_pv, .int w_pc, .ref g1, .ref g2, .ref g3, .ref g4, .ref g5, .ref g6, .ref g7, .ref g8, .long w_ti, .long w_co, .int w_so, .int w_st, .int w_ge, .int w_gi, .int w_wn, .int w_wr, .ref g9, .ref gA, .ref gB])), (g1, .inl (k.2.1, 16, .inl w_ed)), (g2, .inl (k.2.1, 16, .inl w_li)), (g3, .inl (k.1, 16, .inl w_pr)), (g4, .inl (k.2.1, 16, .inl w_pn)), (g5, .inl (k.1, 16, .inl w_se)), (g6, .inl (k.1, 16, .inl w_wa)), (g7, .inl (k.1, 2, .inl w_en)), (g8, .inl (k.1, 2, .inl w_tt)), (g9, .inl (k.1, 2, .inl w_ve)), (gA, .inl (k.1, 2, .inl w_ba)), (gB, .inl (k.1, 2, .inl w_ca))]) (wc := [(g0, .inr (8, [.int w_th, .int w_pv, .int w_pc, .ref g1, .ref g2, .ref g3, .ref g4, .ref g5, .ref g6, .ref g7, .ref g8, .long w_ti, .long w_co, .int w_so, .int w_st, .int w_ge, .int w_gi, .int w_wn, .int w_wr, .ref g9, .ref gA, .ref gB])), (g1, .inl (k.2.1, 16, .inl w_ed)), (g2, .inl (k.2.1, 16, .inl w_li)), (g3, .inl (k.1, 16, .inl w_pr)), (g4, .inl (k.2.1, 16, .inl w_pn)), (g5, .inl (k.1, 16, .inl w_se)), (g6, .inl (k.1, 16, .inl w_wa)), (g7, .inl (k.1, 2, .inl w_en)), (g8, .inl (k.1, 2, .inl w_tt)), (g9, .inl (k.1, 2, .inl w_ve)), (gA, .inl (k.1, 2, .inl w_ba)), (gB, .inl (k.1, 2, .inl w_ca))]) ⟨hx, hb, hml, hown, hts⟩ (c_mo_isEnabled l D k g0 g1 g2 g3 g4 g5 g6 g7 g8 g9 gA gB H.size w_th w_pv w_pc w_ti w_co w_so w_st w_ge w_gi w_wn w_wr w_ed w_li w_pr w_pn w_se w_wa w_en w_tt w_ve w_ba w_ca p0 (nI (n + 1)) hc) (gd_V uW_id m_715 m_717 ms_35 m_9 m_718) rfl rfl (by decide +kernel) ⟨Nat.le_of_ble_eq_true rfl, Nat.le_of_ble_eq_true rfl⟩ hP hK hD hN hV hS hA rfl (by decide) rfl rfl rfl rfl rfl hl.1 rfl (lv_room (Nat.le_of_ble_eq_true rfl)) d_mo_claim_21 ⟨Nat.le_of_ble_eq_true rfl, Nat.le_of_ble_eq_true rfl⟩) hP hD hS hA [0, 1, 2, 3, 4, 5, 6, 7, 8, 9, 10, 11] [] (wr := []) rfl rfl (by decide) (by decide) (fun H locs hP hD hS => ?_)
      have hP : va_P D cls [(g0, .inr (8, [.int w_th, .int w_pv, .int w_pc, .ref g1, .ref g2, .ref g3, .ref g4, .ref g5, .ref g6, .ref g7, .ref g8, .long w_ti, .long w_co, .int w_so, .int w_st, .int w_ge, .int w_gi, .int w_wn, .int w_wr, .ref g9, .ref gA, .ref gB])), (g1, .inl (k.2.1, 16, .inl w_ed)), (g2, .inl (k.2.1, 16, .inl w_li)), (g3, .inl (k.1, 16, .inl w_pr)), (g4, .inl (k.2.1, 16, .inl w_pn)), (g5, .inl (k.1, 16, .inl w_se)), (g6, .inl (k.1, 16, .inl w_wa)), (g7, .inl (k.1, 2, .inl w_en)), (g8, .inl (k.1, 2, .inl w_tt)), (g9, .inl (k.1, 2, .inl w_ve)), (gA, .inl (k.1, 2, .inl w_ba)), (gB, .inl (k.1, 2, .inl w_ca))] H := hP
      have hD : va_D A [(g0, .inr (8, [.int w_th, .int w_pv, .int w_pc, .ref g1, .ref g2, .ref g3, .ref g4, .ref g5, .ref g6, .ref g7, .ref g8, .long w_ti, .long w_co, .int w_so, .int w_st, .int w_ge, .int w_gi, .int w_wn, .int w_wr, .ref g9, .ref gA, .ref gB])), (g1, .inl (k.2.1, 16, .inl w_ed)), (g2, .inl (k.2.1, 16, .inl w_li)), (g3, .inl (k.1, 16, .inl w_pr)), (g4, .inl (k.2.1, 16, .inl w_pn)), (g5, .inl (k.1, 16, .inl w_se)), (g6, .inl (k.1, 16, .inl w_wa)), (g7, .inl (k.1, 2, .inl w_en)), (g8, .inl (k.1, 2, .inl w_tt)), (g9, .inl (k.1, 2, .inl w_ve)), (gA, .inl (k.1, 2, .inl w_ba)), (gB, .inl (k.1, 2, .inl w_ca))] := hD
      refine lv_if_eq (tgt := 57) hx hb d_mo_claim_24 (by decide) (fun c2 => ?_) (fun c2 => ?_)
      · refine lv_iinc (v := nI n) (lv' := [(3, .int (nI n)), (2, .int z5_0), (0, .ref g0), (1, .int p0)]) hx hb d_mo_claim_57 hl (k := 0) rfl (pk_m1 n) (by decide) rfl (fun ls hl => ?_)
        refine lv_goto (tgt := 5) hx hb d_mo_claim_60 (by decide) ?_
        exact ih z5_0 _ _ _ ⟨by rw [hF, f_mo_claim_L5, if_neg c1, if_pos c2], (by first | exact hI | exact vp_in_nI (by omega) (by decide))⟩ (hP.sub [0, 1, 2, 3, 4, 5, 6, 7, 8, 9, 10, 11] rfl) (hD.sub [0, 1, 2, 3, 4, 5, 6, 7, 8, 9, 10, 11] (by decide) rfl) hS (lv_sub hl [0, 1, 2, 3] rfl)
      · refine lv_aload_n hx hb d_mo_claim_27 rfl (lv_at hl 2 rfl) ?_
        refine va_get (D := D) (ci := 8) (v := .ref g3) (C := R_mo) (T := T_mo) (N := 22) hx hb hts iu_mo hown hK hP 0 rfl rfl 5 (by decide) (hts _ m_611) (fun _ h9 => h9) rfl d_mo_claim_28 ?_
        refine lv_iload_n hx hb d_mo_claim_31 rfl (lv_at hl 0 rfl) ?_
        refine va_iald hx hb hK hP 3 0 rfl rfl (vp_in_nI (by omega) (by decide)) d_mo_claim_32 ?_
        refine lv_if_le (tgt := 57) hx hb d_mo_claim_33 (by decide) (fun c3 => ?_) (fun c3 => ?_)
        · refine lv_iinc (v := nI n) (lv' := [(3, .int (nI n)), (2, .int z5_0), (0, .ref g0), (1, .int p0)]) hx hb d_mo_claim_57 hl (k := 0) rfl (pk_m1 n) (by decide) rfl (fun ls hl => ?_)
          refine lv_goto (tgt := 5) hx hb d_mo_claim_60 (by decide) ?_
          exact ih z5_0 _ _ _ ⟨by rw [hF, f_mo_claim_L5, if_neg c1, if_neg c2, if_pos c3], (by first | exact hI | exact vp_in_nI (by omega) (by decide))⟩ (hP.sub [0, 1, 2, 3, 4, 5, 6, 7, 8, 9, 10, 11] rfl) (hD.sub [0, 1, 2, 3, 4, 5, 6, 7, 8, 9, 10, 11] (by decide) rfl) hS (lv_sub hl [0, 1, 2, 3] rfl)
        · refine lv_iload_n hx hb d_mo_claim_36 rfl (lv_at hl 1 rfl) ?_
          refine lv_if_eq (tgt := 55) hx hb d_mo_claim_37 (by decide) (fun c4 => ?_) (fun c4 => ?_)
          · refine lv_iload_n hx hb d_mo_claim_55 rfl (lv_at hl 0 rfl) ?_
            refine lv_istore_n (lv' := [(2, .int (nI (n + 1))), (3, .int (nI (n + 1))), (0, .ref g0), (1, .int p0)]) hx hb d_mo_claim_56 rfl hl (by decide) rfl (fun ls hl => ?_)
            refine lv_iinc (v := nI n) (lv' := [(3, .int (nI n)), (2, .int (nI (n + 1))), (0, .ref g0), (1, .int p0)]) hx hb d_mo_claim_57 hl (k := 1) rfl (pk_m1 n) (by decide) rfl (fun ls hl => ?_)
            refine lv_goto (tgt := 5) hx hb d_mo_claim_60 (by decide) ?_
            exact ih (nI (n + 1)) _ _ _ ⟨by rw [hF, f_mo_claim_L5, if_neg c1, if_neg c2, if_neg c3, if_pos c4], (by first | exact hI | exact vp_in_nI (by omega) (by decide))⟩ (hP.sub [0, 1, 2, 3, 4, 5, 6, 7, 8, 9, 10, 11] rfl) (hD.sub [0, 1, 2, 3, 4, 5, 6, 7, 8, 9, 10, 11] (by decide) rfl) hS (lv_sub hl [0, 1, 2, 3] rfl)
          · refine lv_aload_n hx hb d_mo_claim_40 rfl (lv_at hl 2 rfl) ?_
            refine va_get (D := D) (ci := 8) (v := .ref g3) (C := R_mo) (T := T_mo) (N := 22) hx hb hts iu_mo hown hK hP 0 rfl rfl 5 (by decide) (hts _ m_611) (fun _ h9 => h9) rfl d_mo_claim_41 ?_
            refine lv_iload_n hx hb d_mo_claim_44 rfl (lv_at hl 0 rfl) ?_
            refine va_iald hx hb hK hP 3 0 rfl rfl (vp_in_nI (by omega) (by decide)) d_mo_claim_45 ?_
            refine lv_aload_n hx hb d_mo_claim_46 rfl (lv_at hl 2 rfl) ?_
            refine va_get (D := D) (ci := 8) (v := .ref g3) (C := R_mo) (T := T_mo) (N := 22) hx hb hts iu_mo hown hK hP 0 rfl rfl 5 (by decide) (hts _ m_611) (fun _ h9 => h9) rfl d_mo_claim_47 ?_
            refine lv_iload_n hx hb d_mo_claim_50 rfl (lv_at hl 1 rfl) ?_
            refine va_iald hx hb hK hP 3 0 rfl rfl hI d_mo_claim_51 ?_
            refine lv_icmp_lt (tgt := 57) hx hb d_mo_claim_52 (by decide) (fun c5 => ?_) (fun c5 => ?_)
            · refine lv_iinc (v := nI n) (lv' := [(3, .int (nI n)), (2, .int z5_0), (0, .ref g0), (1, .int p0)]) hx hb d_mo_claim_57 hl (k := 0) rfl (pk_m1 n) (by decide) rfl (fun ls hl => ?_)
              refine lv_goto (tgt := 5) hx hb d_mo_claim_60 (by decide) ?_
              exact ih z5_0 _ _ _ ⟨by rw [hF, f_mo_claim_L5, if_neg c1, if_neg c2, if_neg c3, if_neg c4, if_pos c5], (by first | exact hI | exact vp_in_nI (by omega) (by decide))⟩ (hP.sub [0, 1, 2, 3, 4, 5, 6, 7, 8, 9, 10, 11] rfl) (hD.sub [0, 1, 2, 3, 4, 5, 6, 7, 8, 9, 10, 11] (by decide) rfl) hS (lv_sub hl [0, 1, 2, 3] rfl)
            · refine lv_iload_n hx hb d_mo_claim_55 rfl (lv_at hl 0 rfl) ?_
              refine lv_istore_n (lv' := [(2, .int (nI (n + 1))), (3, .int (nI (n + 1))), (0, .ref g0), (1, .int p0)]) hx hb d_mo_claim_56 rfl hl (by decide) rfl (fun ls hl => ?_)
              refine lv_iinc (v := nI n) (lv' := [(3, .int (nI n)), (2, .int (nI (n + 1))), (0, .ref g0), (1, .int p0)]) hx hb d_mo_claim_57 hl (k := 1) rfl (pk_m1 n) (by decide) rfl (fun ls hl => ?_)
              refine lv_goto (tgt := 5) hx hb d_mo_claim_60 (by decide) ?_
              exact ih (nI (n + 1)) _ _ _ ⟨by rw [hF, f_mo_claim_L5, if_neg c1, if_neg c2, if_neg c3, if_neg c4, if_neg c5], (by first | exact hI | exact vp_in_nI (by omega) (by decide))⟩ (hP.sub [0, 1, 2, 3, 4, 5, 6, 7, 8, 9, 10, 11] rfl) (hD.sub [0, 1, 2, 3, 4, 5, 6, 7, 8, 9, 10, 11] (by decide) rfl) hS (lv_sub hl [0, 1, 2, 3] rfl)
def f_mo_complete (w_ed : (Nat → Int32)) (w_li : (Nat → Int32)) (w_pn : (Nat → Int32)) (w_se : (Nat → Int32)) (w_wa : (Nat → Int32)) (w_en : (Nat → Int32)) (p0 : Int32) (p1 : Int32) : (Nat → Int32) × (Nat → Int32) × (Nat → Int32) := (if p1 < (1 : Int32) then (w_pn, w_se, w_wa) else (if (15 : Int32) < p1 then (w_pn, w_se, w_wa) else (if (f_mo_isEnabled w_en p0 p1) = 0 then (w_pn, w_se, w_wa) else ((f_mo_forward w_ed w_li w_pn (upd w_se (p1 : Int32).toNatClampNeg (0 : Int32)) w_wa).1, upd w_se (p1 : Int32).toNatClampNeg (0 : Int32), (f_mo_forward w_ed w_li w_pn (upd w_se (p1 : Int32).toNatClampNeg (0 : Int32)) w_wa).2))))
set_option maxHeartbeats 4000000 in
set_option maxRecDepth 100000 in
theorem c_mo_complete (l : Launch) (D : va_G) (k : k3) (g0 : Nat) (g1 : Nat) (g2 : Nat) (g3 : Nat) (g4 : Nat) (g5 : Nat) (g6 : Nat) (g7 : Nat) (g8 : Nat) (g9 : Nat) (gA : Nat) (gB : Nat) (sz : Nat) (w_th : Int32) (w_pv : Int32) (w_pc : Int32) (w_ti : Int64) (w_co : Int64) (w_so : Int32) (w_st : Int32) (w_ge : Int32) (w_gi : Int32) (w_wn : Int32) (w_wr : Int32) (w_ed : (Nat → Int32)) (w_li : (Nat → Int32)) (w_pr : (Nat → Int32)) (w_pn : (Nat → Int32)) (w_se : (Nat → Int32)) (w_wa : (Nat → Int32)) (w_en : (Nat → Int32)) (w_tt : (Nat → Int32)) (w_ve : (Nat → Int32)) (w_ba : (Nat → Int32)) (w_ca : (Nat → Int32)) (p0 : Int32) (p1 : Int32) (hc : vp_in p0 2) : Met l y_mo_complete (Cond.code y_mo_complete b_mo_complete 3 none :: uW) ({ frames := 1, cells := 0, slots := 0, locals := 22 }) (va_Pc [.ref g0, .int p0, .int p1] (pr_ D k sz [(g0, .inr (8, [.int w_th, .int w_pv, .int w_pc, .ref g1, .ref g2, .ref g3, .ref g4, .ref g5, .ref g6, .ref g7, .ref g8, .long w_ti, .long w_co, .int w_so, .int w_st, .int w_ge, .int w_gi, .int w_wn, .int w_wr, .ref g9, .ref gA, .ref gB])), (g1, .inl (k.2.1, 16, .inl w_ed)), (g2, .inl (k.2.1, 16, .inl w_li)), (g3, .inl (k.1, 16, .inl w_pr)), (g4, .inl (k.2.1, 16, .inl w_pn)), (g5, .inl (k.1, 16, .inl w_se)), (g6, .inl (k.1, 16, .inl w_wa)), (g7, .inl (k.1, 2, .inl w_en)), (g8, .inl (k.1, 2, .inl w_tt)), (g9, .inl (k.1, 2, .inl w_ve)), (gA, .inl (k.1, 2, .inl w_ba)), (gB, .inl (k.1, 2, .inl w_ca))])) (va_Qv (fun (_ : Unit) => True) (fun _ t => po_ D k (va_A [(g0, .inr (8, [.int w_th, .int w_pv, .int w_pc, .ref g1, .ref g2, .ref g3, .ref g4, .ref g5, .ref g6, .ref g7, .ref g8, .long w_ti, .long w_co, .int w_so, .int w_st, .int w_ge, .int w_gi, .int w_wn, .int w_wr, .ref g9, .ref gA, .ref gB])), (g1, .inl (k.2.1, 16, .inl w_ed)), (g2, .inl (k.2.1, 16, .inl w_li)), (g3, .inl (k.1, 16, .inl w_pr)), (g4, .inl (k.2.1, 16, .inl w_pn)), (g5, .inl (k.1, 16, .inl w_se)), (g6, .inl (k.1, 16, .inl w_wa)), (g7, .inl (k.1, 2, .inl w_en)), (g8, .inl (k.1, 2, .inl w_tt)), (g9, .inl (k.1, 2, .inl w_ve)), (gA, .inl (k.1, 2, .inl w_ba)), (gB, .inl (k.1, 2, .inl w_ca))] sz) [(g0, .inr (8, [.int w_th, .int w_pv, .int w_pc, .ref g1, .ref g2, .ref g3, .ref g4, .ref g5, .ref g6, .ref g7, .ref g8, .long w_ti, .long w_co, .int w_so, .int w_st, .int w_ge, .int w_gi, .int w_wn, .int w_wr, .ref g9, .ref gA, .ref gB])), (g1, .inl (k.2.1, 16, .inl w_ed)), (g2, .inl (k.2.1, 16, .inl w_li)), (g3, .inl (k.1, 16, .inl w_pr)), (g4, .inl (k.2.1, 16, .inl ((f_mo_complete w_ed w_li w_pn w_se w_wa w_en p0 p1).1))), (g5, .inl (k.1, 16, .inl ((f_mo_complete w_ed w_li w_pn w_se w_wa w_en p0 p1).2.1))), (g6, .inl (k.1, 16, .inl ((f_mo_complete w_ed w_li w_pn w_se w_wa w_en p0 p1).2.2))), (g7, .inl (k.1, 2, .inl w_en)), (g8, .inl (k.1, 2, .inl w_tt)), (g9, .inl (k.1, 2, .inl w_ve)), (gA, .inl (k.1, 2, .inl w_ba)), (gB, .inl (k.1, 2, .inl w_ca))] t) (va_A [(g0, .inr (8, [.int w_th, .int w_pv, .int w_pc, .ref g1, .ref g2, .ref g3, .ref g4, .ref g5, .ref g6, .ref g7, .ref g8, .long w_ti, .long w_co, .int w_so, .int w_st, .int w_ge, .int w_gi, .int w_wn, .int w_wr, .ref g9, .ref gA, .ref gB])), (g1, .inl (k.2.1, 16, .inl w_ed)), (g2, .inl (k.2.1, 16, .inl w_li)), (g3, .inl (k.1, 16, .inl w_pr)), (g4, .inl (k.2.1, 16, .inl w_pn)), (g5, .inl (k.1, 16, .inl w_se)), (g6, .inl (k.1, 16, .inl w_wa)), (g7, .inl (k.1, 2, .inl w_en)), (g8, .inl (k.1, 2, .inl w_tt)), (g9, .inl (k.1, 2, .inl w_ve)), (gA, .inl (k.1, 2, .inl w_ba)), (gB, .inl (k.1, 2, .inl w_ca))] sz)) 0 0 (va_A [(g0, .inr (8, [.int w_th, .int w_pv, .int w_pc, .ref g1, .ref g2, .ref g3, .ref g4, .ref g5, .ref g6, .ref g7, .ref g8, .long w_ti, .long w_co, .int w_so, .int w_st, .int w_ge, .int w_gi, .int w_wn, .int w_wr, .ref g9, .ref gA, .ref gB])), (g1, .inl (k.2.1, 16, .inl w_ed)), (g2, .inl (k.2.1, 16, .inl w_li)), (g3, .inl (k.1, 16, .inl w_pr)), (g4, .inl (k.2.1, 16, .inl w_pn)), (g5, .inl (k.1, 16, .inl w_se)), (g6, .inl (k.1, 16, .inl w_wa)), (g7, .inl (k.1, 2, .inl w_en)), (g8, .inl (k.1, 2, .inl w_tt)), (g9, .inl (k.1, 2, .inl w_ve)), (gA, .inl (k.1, 2, .inl w_ba)), (gB, .inl (k.1, 2, .inl w_ca))] sz) := by
  refine en_ (by decide) ?_
  intro p e s m below meth c hsz hx hb hr hml hown hts hlocks hin hP hK hD hN hV
  subst hsz
  generalize hAe : va_A [(g0, .inr (8, [.int w_th, .int w_pv, .int w_pc, .ref g1, .ref g2, .ref g3, .ref g4, .ref g5, .ref g6, .ref g7, .ref g8, .long w_ti, .long w_co, .int w_so, .int w_st, .int w_ge, .int w_gi, .int w_wn, .int w_wr, .ref g9, .ref gA, .ref gB])), (g1, .inl (k.2.1, 16, .inl w_ed)), (g2, .inl (k.2.1, 16, .inl w_li)), (g3, .inl (k.1, 16, .inl w_pr)), (g4, .inl (k.2.1, 16, .inl w_pn)), (g5, .inl (k.1, 16, .inl w_se)), (g6, .inl (k.1, 16, .inl w_wa)), (g7, .inl (k.1, 2, .inl w_en)), (g8, .inl (k.1, 2, .inl w_tt)), (g9, .inl (k.1, 2, .inl w_ve)), (gA, .inl (k.1, 2, .inl w_ba)), (gB, .inl (k.1, 2, .inl w_ca))] s.heap.size = A at hD hV ⊢
  have hA : ∀ q : Nat, s.heap.size ≤ q → A q := fun q h => by rw [← hAe]; exact Or.inr h
  have hS : va_S A s.heap s.heap [] := va_S.rf
  have hF : f_mo_complete w_ed w_li w_pn w_se w_wa w_en p0 p1 = f_mo_complete w_ed w_li w_pn w_se w_wa w_en p0 p1 := rfl
  have hl := lv_entry ([.ref g0, .int p0, .int p1]) (n := 3) (Nat.le_of_ble_eq_true rfl)
  rw [lg_entry_eq]
  generalize (lg_sl ([.ref g0, .int p0, .int p1]) ++ List.replicate (3 - (lg_sl ([.ref g0, .int p0, .int p1])).length) Slot.unset).toArray = ls at hl ⊢
  have hl : lv_has ls 3 [(0, .ref g0), (1, .int p0), (2, .int p1)] := hl
  obtain ⟨H, hH⟩ : ∃ z, z = s.heap := ⟨_, rfl⟩
  have hP : va_P D cls [(g0, .inr (8, [.int w_th, .int w_pv, .int w_pc, .ref g1, .ref g2, .ref g3, .ref g4, .ref g5, .ref g6, .ref g7, .ref g8, .long w_ti, .long w_co, .int w_so, .int w_st, .int w_ge, .int w_gi, .int w_wn, .int w_wr, .ref g9, .ref gA, .ref gB])), (g1, .inl (k.2.1, 16, .inl w_ed)), (g2, .inl (k.2.1, 16, .inl w_li)), (g3, .inl (k.1, 16, .inl w_pr)), (g4, .inl (k.2.1, 16, .inl w_pn)), (g5, .inl (k.1, 16, .inl w_se)), (g6, .inl (k.1, 16, .inl w_wa)), (g7, .inl (k.1, 2, .inl w_en)), (g8, .inl (k.1, 2, .inl w_tt)), (g9, .inl (k.1, 2, .inl w_ve)), (gA, .inl (k.1, 2, .inl w_ba)), (gB, .inl (k.1, 2, .inl w_ca))] H := by rw [hH]; exact hP
  have hS : va_S A s.heap H [] := by rw [hH]; exact hS
  refine wH_ hH ?_
  refine lv_iload_n hx hb d_mo_complete_0 rfl (lv_at hl 2 rfl) ?_
  refine lv_iconst (v := (1 : Int32)) hx hb d_mo_complete_1 (by decide) ?_
  refine lv_icmp_lt (tgt := 31) hx hb d_mo_complete_2 (by decide) (fun c1 => ?_) (fun c1 => ?_)
  · have hE : f_mo_complete w_ed w_li w_pn w_se w_wa w_en p0 p1 = (w_pn, w_se, w_wa) := by
      rw [hF]; unfold f_mo_complete; rw [if_pos c1]
    rw [hE]
    exact rt_v hx hb hr hlocks hP hD hK hS [0, 1, 2, 3, 4, 5, 6, 7, 8, 9, 10, 11] rfl (by decide) rfl d_mo_complete_31
  · refine lv_iload_n hx hb d_mo_complete_5 rfl (lv_at hl 2 rfl) ?_
    refine lv_bipush (v := (15 : Int32)) hx hb d_mo_complete_6 (by decide) ?_
    refine lv_icmp_gt (tgt := 31) hx hb d_mo_complete_8 (by decide) (fun c2 => ?_) (fun c2 => ?_)
    · have hE : f_mo_complete w_ed w_li w_pn w_se w_wa w_en p0 p1 = (w_pn, w_se, w_wa) := by
        rw [hF]; unfold f_mo_complete; rw [if_neg c1, if_pos c2]
      rw [hE]
      exact rt_v hx hb hr hlocks hP hD hK hS [0, 1, 2, 3, 4, 5, 6, 7, 8, 9, 10, 11] rfl (by decide) rfl d_mo_complete_31
    · refine lv_aload_n hx hb d_mo_complete_11 rfl (lv_at hl 0 rfl) ?_
      refine lv_iload_n hx hb d_mo_complete_12 rfl (lv_at hl 1 rfl) ?_
      refine lv_iload_n hx hb d_mo_complete_13 rfl (lv_at hl 2 rfl) ?_
      refine fn_i (rn_V (own := "TrapHartModel") (index := 64) (n := 2) (C := "TrapHartModel") (As := [.int p0, .int p1]) (rest := []) (isC := [0, 1, 2, 3, 4, 5, 6, 7, 8, 9, 10, 11]) (ws := [(g0, .inr (8, [.int w_th, .int w_pv, .int w_pc, .ref g1, .ref g2, .ref g3, .ref g4, .ref g5, .ref g6, .ref g7, .ref g8, .long w_ti, .long w_co, .int w_so, .int w_st, .int w_ge, .int w_gi, .int w_wn, .int w_wr, .ref g9, .ref gA, .ref gB])), (g1, .inl (k.2.1, 16, .inl w_ed)), (g2, .inl (k.2.1, 16, .inl w_li)), (g3, .inl (k.1, 16, .inl w_pr)), (g4, .inl (k.2.1, 16, .inl w_pn)), (g5, .inl (k.1, 16, .inl w_se)), (g6, .inl (k.1, 16, .inl w_wa)), (g7, .inl (k.1, 2, .inl w_en)), (g8, .inl (k.1, 2, .inl w_tt)), (g9, .inl (k.1, 2, .inl w_ve)), (gA, .inl (k.1, 2, .inl w_ba)), (gB, .inl (k.1, 2, .inl w_ca))]) (wc := [(g0, .inr (8, [.int w_th, .int w_pv, .int w_pc, .ref g1, .ref g2, .ref g3, .ref g4, .ref g5, .ref g6, .ref g7, .ref g8, .long w_ti, .long w_co, .int w_so, .int w_st, .int w_ge, .int w_gi, .int w_wn, .int w_wr, .ref g9, .ref gA, .ref gB])), (g1, .inl (k.2.1, 16, .inl w_ed)), (g2, .inl (k.2.1, 16, .inl w_li)), (g3, .inl (k.1, 16, .inl w_pr)), (g4, .inl (k.2.1, 16, .inl w_pn)), (g5, .inl (k.1, 16, .inl w_se)), (g6, .inl (k.1, 16, .inl w_wa)), (g7, .inl (k.1, 2, .inl w_en)), (g8, .inl (k.1, 2, .inl w_tt)), (g9, .inl (k.1, 2, .inl w_ve)), (gA, .inl (k.1, 2, .inl w_ba)), (gB, .inl (k.1, 2, .inl w_ca))]) ⟨hx, hb, hml, hown, hts⟩ (c_mo_isEnabled l D k g0 g1 g2 g3 g4 g5 g6 g7 g8 g9 gA gB H.size w_th w_pv w_pc w_ti w_co w_so w_st w_ge w_gi w_wn w_wr w_ed w_li w_pr w_pn w_se w_wa w_en w_tt w_ve w_ba w_ca p0 p1 hc) (gd_V uW_id m_715 m_717 ms_35 m_9 m_718) rfl rfl (by decide +kernel) ⟨Nat.le_of_ble_eq_true rfl, Nat.le_of_ble_eq_true rfl⟩ hP hK hD hN hV hS hA rfl (by decide) rfl rfl rfl rfl rfl hl.1 rfl (lv_room (Nat.le_of_ble_eq_true rfl)) d_mo_complete_14 ⟨Nat.le_of_ble_eq_true rfl, Nat.le_of_ble_eq_true rfl⟩) hP hD hS hA [0, 1, 2, 3, 4, 5, 6, 7, 8, 9, 10, 11] [] (wr := []) rfl rfl (by decide) (by decide) (fun H locs hP hD hS => ?_)
      have hP : va_P D cls [(g0, .inr (8, [.int w_th, .int w_pv, .int w_pc, .ref g1, .ref g2, .ref g3, .ref g4, .ref g5, .ref g6, .ref g7, .ref g8, .long w_ti, .long w_co, .int w_so, .int w_st, .int w_ge, .int w_gi, .int w_wn, .int w_wr, .ref g9, .ref gA, .ref gB])), (g1, .inl (k.2.1, 16, .inl w_ed)), (g2, .inl (k.2.1, 16, .inl w_li)), (g3, .inl (k.1, 16, .inl w_pr)), (g4, .inl (k.2.1, 16, .inl w_pn)), (g5, .inl (k.1, 16, .inl w_se)), (g6, .inl (k.1, 16, .inl w_wa)), (g7, .inl (k.1, 2, .inl w_en)), (g8, .inl (k.1, 2, .inl w_tt)), (g9, .inl (k.1, 2, .inl w_ve)), (gA, .inl (k.1, 2, .inl w_ba)), (gB, .inl (k.1, 2, .inl w_ca))] H := hP
      have hD : va_D A [(g0, .inr (8, [.int w_th, .int w_pv, .int w_pc, .ref g1, .ref g2, .ref g3, .ref g4, .ref g5, .ref g6, .ref g7, .ref g8, .long w_ti, .long w_co, .int w_so, .int w_st, .int w_ge, .int w_gi, .int w_wn, .int w_wr, .ref g9, .ref gA, .ref gB])), (g1, .inl (k.2.1, 16, .inl w_ed)), (g2, .inl (k.2.1, 16, .inl w_li)), (g3, .inl (k.1, 16, .inl w_pr)), (g4, .inl (k.2.1, 16, .inl w_pn)), (g5, .inl (k.1, 16, .inl w_se)), (g6, .inl (k.1, 16, .inl w_wa)), (g7, .inl (k.1, 2, .inl w_en)), (g8, .inl (k.1, 2, .inl w_tt)), (g9, .inl (k.1, 2, .inl w_ve)), (gA, .inl (k.1, 2, .inl w_ba)), (gB, .inl (k.1, 2, .inl w_ca))] := hD
      refine lv_if_eq (tgt := 31) hx hb d_mo_complete_17 (by decide) (fun c3 => ?_) (fun c3 => ?_)
      · have hE : f_mo_complete w_ed w_li w_pn w_se w_wa w_en p0 p1 = (w_pn, w_se, w_wa) := by
          rw [hF]; unfold f_mo_complete; rw [if_neg c1, if_neg c2, if_pos c3]
        rw [hE]
        exact rt_v hx hb hr hlocks hP hD hK hS [0, 1, 2, 3, 4, 5, 6, 7, 8, 9, 10, 11] rfl (by decide) rfl d_mo_complete_31
      · refine lv_aload_n hx hb d_mo_complete_20 rfl (lv_at hl 0 rfl) ?_
        refine va_get (D := D) (ci := 8) (v := .ref g5) (C := R_mo) (T := T_mo) (N := 22) hx hb hts iu_mo hown hK hP 0 rfl rfl 7 (by decide) (hts _ m_613) (fun _ h9 => h9) rfl d_mo_complete_21 ?_
        refine lv_iload_n hx hb d_mo_complete_24 rfl (lv_at hl 2 rfl) ?_
        refine lv_iconst (v := (0 : Int32)) hx hb d_mo_complete_25 (by decide) ?_
        refine va_iast hx hb hK hP hD hS 5 0 rfl rfl (ix_115 c1 c2) d_mo_complete_26 (fun H locs hP hD hS => ?_)
        have hP : va_P D cls [(g0, .inr (8, [.int w_th, .int w_pv, .int w_pc, .ref g1, .ref g2, .ref g3, .ref g4, .ref g5, .ref g6, .ref g7, .ref g8, .long w_ti, .long w_co, .int w_so, .int w_st, .int w_ge, .int w_gi, .int w_wn, .int w_wr, .ref g9, .ref gA, .ref gB])), (g1, .inl (k.2.1, 16, .inl w_ed)), (g2, .inl (k.2.1, 16, .inl w_li)), (g3, .inl (k.1, 16, .inl w_pr)), (g4, .inl (k.2.1, 16, .inl w_pn)), (g5, .inl (k.1, 16, .inl (upd w_se (p1 : Int32).toNatClampNeg (0 : Int32)))), (g6, .inl (k.1, 16, .inl w_wa)), (g7, .inl (k.1, 2, .inl w_en)), (g8, .inl (k.1, 2, .inl w_tt)), (g9, .inl (k.1, 2, .inl w_ve)), (gA, .inl (k.1, 2, .inl w_ba)), (gB, .inl (k.1, 2, .inl w_ca))] H := hP
        have hD : va_D A [(g0, .inr (8, [.int w_th, .int w_pv, .int w_pc, .ref g1, .ref g2, .ref g3, .ref g4, .ref g5, .ref g6, .ref g7, .ref g8, .long w_ti, .long w_co, .int w_so, .int w_st, .int w_ge, .int w_gi, .int w_wn, .int w_wr, .ref g9, .ref gA, .ref gB])), (g1, .inl (k.2.1, 16, .inl w_ed)), (g2, .inl (k.2.1, 16, .inl w_li)), (g3, .inl (k.1, 16, .inl w_pr)), (g4, .inl (k.2.1, 16, .inl w_pn)), (g5, .inl (k.1, 16, .inl (upd w_se (p1 : Int32).toNatClampNeg (0 : Int32)))), (g6, .inl (k.1, 16, .inl w_wa)), (g7, .inl (k.1, 2, .inl w_en)), (g8, .inl (k.1, 2, .inl w_tt)), (g9, .inl (k.1, 2, .inl w_ve)), (gA, .inl (k.1, 2, .inl w_ba)), (gB, .inl (k.1, 2, .inl w_ca))] := hD
        refine lv_aload_n hx hb d_mo_complete_27 rfl (lv_at hl 0 rfl) ?_
        refine fn_v (rn_V (own := "TrapHartModel") (index := 57) (n := 0) (C := "TrapHartModel") (As := []) (rest := []) (isC := [0, 1, 2, 3, 4, 5, 6, 7, 8, 9, 10, 11]) (ws := [(g0, .inr (8, [.int w_th, .int w_pv, .int w_pc, .ref g1, .ref g2, .ref g3, .ref g4, .ref g5, .ref g6, .ref g7, .ref g8, .long w_ti, .long w_co, .int w_so, .int w_st, .int w_ge, .int w_gi, .int w_wn, .int w_wr, .ref g9, .ref gA, .ref gB])), (g1, .inl (k.2.1, 16, .inl w_ed)), (g2, .inl (k.2.1, 16, .inl w_li)), (g3, .inl (k.1, 16, .inl w_pr)), (g4, .inl (k.2.1, 16, .inl w_pn)), (g5, .inl (k.1, 16, .inl (upd w_se (p1 : Int32).toNatClampNeg (0 : Int32)))), (g6, .inl (k.1, 16, .inl w_wa)), (g7, .inl (k.1, 2, .inl w_en)), (g8, .inl (k.1, 2, .inl w_tt)), (g9, .inl (k.1, 2, .inl w_ve)), (gA, .inl (k.1, 2, .inl w_ba)), (gB, .inl (k.1, 2, .inl w_ca))]) (wc := [(g0, .inr (8, [.int w_th, .int w_pv, .int w_pc, .ref g1, .ref g2, .ref g3, .ref g4, .ref g5, .ref g6, .ref g7, .ref g8, .long w_ti, .long w_co, .int w_so, .int w_st, .int w_ge, .int w_gi, .int w_wn, .int w_wr, .ref g9, .ref gA, .ref gB])), (g1, .inl (k.2.1, 16, .inl w_ed)), (g2, .inl (k.2.1, 16, .inl w_li)), (g3, .inl (k.1, 16, .inl w_pr)), (g4, .inl (k.2.1, 16, .inl w_pn)), (g5, .inl (k.1, 16, .inl (upd w_se (p1 : Int32).toNatClampNeg (0 : Int32)))), (g6, .inl (k.1, 16, .inl w_wa)), (g7, .inl (k.1, 2, .inl w_en)), (g8, .inl (k.1, 2, .inl w_tt)), (g9, .inl (k.1, 2, .inl w_ve)), (gA, .inl (k.1, 2, .inl w_ba)), (gB, .inl (k.1, 2, .inl w_ca))]) ⟨hx, hb, hml, hown, hts⟩ (c_mo_forward l D k g0 g1 g2 g3 g4 g5 g6 g7 g8 g9 gA gB H.size w_th w_pv w_pc w_ti w_co w_so w_st w_ge w_gi w_wn w_wr w_ed w_li w_pr w_pn (upd w_se (p1 : Int32).toNatClampNeg (0 : Int32)) w_wa w_en w_tt w_ve w_ba w_ca) (gd_V uW_id m_682 m_684 ms_31 m_9 m_685) rfl rfl (by decide +kernel) ⟨Nat.le_of_ble_eq_true rfl, Nat.le_of_ble_eq_true rfl⟩ hP hK hD hN hV hS hA rfl (by decide) rfl rfl rfl rfl rfl hl.1 rfl (lv_room (Nat.le_of_ble_eq_true rfl)) d_mo_complete_28 ⟨Nat.le_of_ble_eq_true rfl, Nat.le_of_ble_eq_true rfl⟩) hP hD hS hA [0, 1, 2, 3, 4, 5, 6, 7, 8, 9, 10, 11] [] (wr := []) rfl rfl (by decide) (by decide) (fun H locs hP hD hS => ?_)
        have hP : va_P D cls [(g0, .inr (8, [.int w_th, .int w_pv, .int w_pc, .ref g1, .ref g2, .ref g3, .ref g4, .ref g5, .ref g6, .ref g7, .ref g8, .long w_ti, .long w_co, .int w_so, .int w_st, .int w_ge, .int w_gi, .int w_wn, .int w_wr, .ref g9, .ref gA, .ref gB])), (g1, .inl (k.2.1, 16, .inl w_ed)), (g2, .inl (k.2.1, 16, .inl w_li)), (g3, .inl (k.1, 16, .inl w_pr)), (g4, .inl (k.2.1, 16, .inl ((f_mo_forward w_ed w_li w_pn (upd w_se (p1 : Int32).toNatClampNeg (0 : Int32)) w_wa).1))), (g5, .inl (k.1, 16, .inl (upd w_se (p1 : Int32).toNatClampNeg (0 : Int32)))), (g6, .inl (k.1, 16, .inl ((f_mo_forward w_ed w_li w_pn (upd w_se (p1 : Int32).toNatClampNeg (0 : Int32)) w_wa).2))), (g7, .inl (k.1, 2, .inl w_en)), (g8, .inl (k.1, 2, .inl w_tt)), (g9, .inl (k.1, 2, .inl w_ve)), (gA, .inl (k.1, 2, .inl w_ba)), (gB, .inl (k.1, 2, .inl w_ca))] H := hP
        have hD : va_D A [(g0, .inr (8, [.int w_th, .int w_pv, .int w_pc, .ref g1, .ref g2, .ref g3, .ref g4, .ref g5, .ref g6, .ref g7, .ref g8, .long w_ti, .long w_co, .int w_so, .int w_st, .int w_ge, .int w_gi, .int w_wn, .int w_wr, .ref g9, .ref gA, .ref gB])), (g1, .inl (k.2.1, 16, .inl w_ed)), (g2, .inl (k.2.1, 16, .inl w_li)), (g3, .inl (k.1, 16, .inl w_pr)), (g4, .inl (k.2.1, 16, .inl ((f_mo_forward w_ed w_li w_pn (upd w_se (p1 : Int32).toNatClampNeg (0 : Int32)) w_wa).1))), (g5, .inl (k.1, 16, .inl (upd w_se (p1 : Int32).toNatClampNeg (0 : Int32)))), (g6, .inl (k.1, 16, .inl ((f_mo_forward w_ed w_li w_pn (upd w_se (p1 : Int32).toNatClampNeg (0 : Int32)) w_wa).2))), (g7, .inl (k.1, 2, .inl w_en)), (g8, .inl (k.1, 2, .inl w_tt)), (g9, .inl (k.1, 2, .inl w_ve)), (gA, .inl (k.1, 2, .inl w_ba)), (gB, .inl (k.1, 2, .inl w_ca))] := hD
        have hE : f_mo_complete w_ed w_li w_pn w_se w_wa w_en p0 p1 = ((f_mo_forward w_ed w_li w_pn (upd w_se (p1 : Int32).toNatClampNeg (0 : Int32)) w_wa).1, upd w_se (p1 : Int32).toNatClampNeg (0 : Int32), (f_mo_forward w_ed w_li w_pn (upd w_se (p1 : Int32).toNatClampNeg (0 : Int32)) w_wa).2) := by
          rw [hF]; unfold f_mo_complete; rw [if_neg c1, if_neg c2, if_neg c3]
        rw [hE]
        exact rt_v hx hb hr hlocks hP hD hK hS [0, 1, 2, 3, 4, 5, 6, 7, 8, 9, 10, 11] rfl (by decide) rfl d_mo_complete_31
def f_mo_calls_L4 (w_pr : (Nat → Int32)) (w_pn : (Nat → Int32)) (w_en : (Nat → Int32)) (w_tt : (Nat → Int32)) (p0 : Int32) : Nat → Nat → Int32 → Int32
  | 0, i, z4_0 => z4_0
  | n + 1, i, z4_0 => (if z4_0 = 0 then (if (w_pn (nI i : Int32).toNatClampNeg) = 0 then (f_mo_calls_L4 w_pr w_pn w_en w_tt p0 n (i + 1) (0 : Int32)) else (if (f_mo_isEnabled w_en p0 (nI i)) = 0 then (f_mo_calls_L4 w_pr w_pn w_en w_tt p0 n (i + 1) (0 : Int32)) else (if (w_pr (nI i : Int32).toNatClampNeg) ≤ (w_tt (p0 : Int32).toNatClampNeg) then (f_mo_calls_L4 w_pr w_pn w_en w_tt p0 n (i + 1) (0 : Int32)) else (f_mo_calls_L4 w_pr w_pn w_en w_tt p0 n (i + 1) (1 : Int32))))) else (f_mo_calls_L4 w_pr w_pn w_en w_tt p0 n (i + 1) (1 : Int32)))
def f_mo_calls (w_pr : (Nat → Int32)) (w_pn : (Nat → Int32)) (w_en : (Nat → Int32)) (w_tt : (Nat → Int32)) (p0 : Int32) : Int32 := (f_mo_calls_L4 w_pr w_pn w_en w_tt p0 15 1 (0 : Int32))
set_option maxHeartbeats 4000000 in
set_option maxRecDepth 100000 in
theorem c_mo_calls (l : Launch) (D : va_G) (k : k3) (g0 : Nat) (g1 : Nat) (g2 : Nat) (g3 : Nat) (g4 : Nat) (g5 : Nat) (g6 : Nat) (g7 : Nat) (g8 : Nat) (g9 : Nat) (gA : Nat) (gB : Nat) (sz : Nat) (w_th : Int32) (w_pv : Int32) (w_pc : Int32) (w_ti : Int64) (w_co : Int64) (w_so : Int32) (w_st : Int32) (w_ge : Int32) (w_gi : Int32) (w_wn : Int32) (w_wr : Int32) (w_ed : (Nat → Int32)) (w_li : (Nat → Int32)) (w_pr : (Nat → Int32)) (w_pn : (Nat → Int32)) (w_se : (Nat → Int32)) (w_wa : (Nat → Int32)) (w_en : (Nat → Int32)) (w_tt : (Nat → Int32)) (w_ve : (Nat → Int32)) (w_ba : (Nat → Int32)) (w_ca : (Nat → Int32)) (p0 : Int32) (hc : vp_in p0 2) : Met l y_mo_calls (Cond.code y_mo_calls b_mo_calls 4 (some .boolean) :: uW) ({ frames := 1, cells := 0, slots := 0, locals := 22 }) (va_Pc [.ref g0, .int p0] (pr_ D k sz [(g0, .inr (8, [.int w_th, .int w_pv, .int w_pc, .ref g1, .ref g2, .ref g3, .ref g4, .ref g5, .ref g6, .ref g7, .ref g8, .long w_ti, .long w_co, .int w_so, .int w_st, .int w_ge, .int w_gi, .int w_wn, .int w_wr, .ref g9, .ref gA, .ref gB])), (g1, .inl (k.2.1, 16, .inl w_ed)), (g2, .inl (k.2.1, 16, .inl w_li)), (g3, .inl (k.1, 16, .inl w_pr)), (g4, .inl (k.2.1, 16, .inl w_pn)), (g5, .inl (k.1, 16, .inl w_se)), (g6, .inl (k.1, 16, .inl w_wa)), (g7, .inl (k.1, 2, .inl w_en)), (g8, .inl (k.1, 2, .inl w_tt)), (g9, .inl (k.1, 2, .inl w_ve)), (gA, .inl (k.1, 2, .inl w_ba)), (gB, .inl (k.1, 2, .inl w_ca))])) (va_Qi (fun (r : Int32) (_ : Unit) => r = f_mo_calls w_pr w_pn w_en w_tt p0) (fun _ t => po_ D k (va_A [(g0, .inr (8, [.int w_th, .int w_pv, .int w_pc, .ref g1, .ref g2, .ref g3, .ref g4, .ref g5, .ref g6, .ref g7, .ref g8, .long w_ti, .long w_co, .int w_so, .int w_st, .int w_ge, .int w_gi, .int w_wn, .int w_wr, .ref g9, .ref gA, .ref gB])), (g1, .inl (k.2.1, 16, .inl w_ed)), (g2, .inl (k.2.1, 16, .inl w_li)), (g3, .inl (k.1, 16, .inl w_pr)), (g4, .inl (k.2.1, 16, .inl w_pn)), (g5, .inl (k.1, 16, .inl w_se)), (g6, .inl (k.1, 16, .inl w_wa)), (g7, .inl (k.1, 2, .inl w_en)), (g8, .inl (k.1, 2, .inl w_tt)), (g9, .inl (k.1, 2, .inl w_ve)), (gA, .inl (k.1, 2, .inl w_ba)), (gB, .inl (k.1, 2, .inl w_ca))] sz) [(g0, .inr (8, [.int w_th, .int w_pv, .int w_pc, .ref g1, .ref g2, .ref g3, .ref g4, .ref g5, .ref g6, .ref g7, .ref g8, .long w_ti, .long w_co, .int w_so, .int w_st, .int w_ge, .int w_gi, .int w_wn, .int w_wr, .ref g9, .ref gA, .ref gB])), (g1, .inl (k.2.1, 16, .inl w_ed)), (g2, .inl (k.2.1, 16, .inl w_li)), (g3, .inl (k.1, 16, .inl w_pr)), (g4, .inl (k.2.1, 16, .inl w_pn)), (g5, .inl (k.1, 16, .inl w_se)), (g6, .inl (k.1, 16, .inl w_wa)), (g7, .inl (k.1, 2, .inl w_en)), (g8, .inl (k.1, 2, .inl w_tt)), (g9, .inl (k.1, 2, .inl w_ve)), (gA, .inl (k.1, 2, .inl w_ba)), (gB, .inl (k.1, 2, .inl w_ca))] t) (va_A [(g0, .inr (8, [.int w_th, .int w_pv, .int w_pc, .ref g1, .ref g2, .ref g3, .ref g4, .ref g5, .ref g6, .ref g7, .ref g8, .long w_ti, .long w_co, .int w_so, .int w_st, .int w_ge, .int w_gi, .int w_wn, .int w_wr, .ref g9, .ref gA, .ref gB])), (g1, .inl (k.2.1, 16, .inl w_ed)), (g2, .inl (k.2.1, 16, .inl w_li)), (g3, .inl (k.1, 16, .inl w_pr)), (g4, .inl (k.2.1, 16, .inl w_pn)), (g5, .inl (k.1, 16, .inl w_se)), (g6, .inl (k.1, 16, .inl w_wa)), (g7, .inl (k.1, 2, .inl w_en)), (g8, .inl (k.1, 2, .inl w_tt)), (g9, .inl (k.1, 2, .inl w_ve)), (gA, .inl (k.1, 2, .inl w_ba)), (gB, .inl (k.1, 2, .inl w_ca))] sz)) 0 0 (va_A [(g0, .inr (8, [.int w_th, .int w_pv, .int w_pc, .ref g1, .ref g2, .ref g3, .ref g4, .ref g5, .ref g6, .ref g7, .ref g8, .long w_ti, .long w_co, .int w_so, .int w_st, .int w_ge, .int w_gi, .int w_wn, .int w_wr, .ref g9, .ref gA, .ref gB])), (g1, .inl (k.2.1, 16, .inl w_ed)), (g2, .inl (k.2.1, 16, .inl w_li)), (g3, .inl (k.1, 16, .inl w_pr)), (g4, .inl (k.2.1, 16, .inl w_pn)), (g5, .inl (k.1, 16, .inl w_se)), (g6, .inl (k.1, 16, .inl w_wa)), (g7, .inl (k.1, 2, .inl w_en)), (g8, .inl (k.1, 2, .inl w_tt)), (g9, .inl (k.1, 2, .inl w_ve)), (gA, .inl (k.1, 2, .inl w_ba)), (gB, .inl (k.1, 2, .inl w_ca))] sz) := by
  refine en_ (by decide) ?_
  intro p e s m below meth c hsz hx hb hr hml hown hts hlocks hin hP hK hD hN hV
  subst hsz
  generalize hAe : va_A [(g0, .inr (8, [.int w_th, .int w_pv, .int w_pc, .ref g1, .ref g2, .ref g3, .ref g4, .ref g5, .ref g6, .ref g7, .ref g8, .long w_ti, .long w_co, .int w_so, .int w_st, .int w_ge, .int w_gi, .int w_wn, .int w_wr, .ref g9, .ref gA, .ref gB])), (g1, .inl (k.2.1, 16, .inl w_ed)), (g2, .inl (k.2.1, 16, .inl w_li)), (g3, .inl (k.1, 16, .inl w_pr)), (g4, .inl (k.2.1, 16, .inl w_pn)), (g5, .inl (k.1, 16, .inl w_se)), (g6, .inl (k.1, 16, .inl w_wa)), (g7, .inl (k.1, 2, .inl w_en)), (g8, .inl (k.1, 2, .inl w_tt)), (g9, .inl (k.1, 2, .inl w_ve)), (gA, .inl (k.1, 2, .inl w_ba)), (gB, .inl (k.1, 2, .inl w_ca))] s.heap.size = A at hD hV ⊢
  have hA : ∀ q : Nat, s.heap.size ≤ q → A q := fun q h => by rw [← hAe]; exact Or.inr h
  have hS : va_S A s.heap s.heap [] := va_S.rf
  have hF : f_mo_calls w_pr w_pn w_en w_tt p0 = f_mo_calls w_pr w_pn w_en w_tt p0 := rfl
  have hl := lv_entry ([.ref g0, .int p0]) (n := 4) (Nat.le_of_ble_eq_true rfl)
  rw [lg_entry_eq]
  generalize (lg_sl ([.ref g0, .int p0]) ++ List.replicate (4 - (lg_sl ([.ref g0, .int p0])).length) Slot.unset).toArray = ls at hl ⊢
  have hl : lv_has ls 4 [(0, .ref g0), (1, .int p0)] := hl
  obtain ⟨H, hH⟩ : ∃ z, z = s.heap := ⟨_, rfl⟩
  have hP : va_P D cls [(g0, .inr (8, [.int w_th, .int w_pv, .int w_pc, .ref g1, .ref g2, .ref g3, .ref g4, .ref g5, .ref g6, .ref g7, .ref g8, .long w_ti, .long w_co, .int w_so, .int w_st, .int w_ge, .int w_gi, .int w_wn, .int w_wr, .ref g9, .ref gA, .ref gB])), (g1, .inl (k.2.1, 16, .inl w_ed)), (g2, .inl (k.2.1, 16, .inl w_li)), (g3, .inl (k.1, 16, .inl w_pr)), (g4, .inl (k.2.1, 16, .inl w_pn)), (g5, .inl (k.1, 16, .inl w_se)), (g6, .inl (k.1, 16, .inl w_wa)), (g7, .inl (k.1, 2, .inl w_en)), (g8, .inl (k.1, 2, .inl w_tt)), (g9, .inl (k.1, 2, .inl w_ve)), (gA, .inl (k.1, 2, .inl w_ba)), (gB, .inl (k.1, 2, .inl w_ca))] H := by rw [hH]; exact hP
  have hS : va_S A s.heap H [] := by rw [hH]; exact hS
  refine wH_ hH ?_
  refine lv_iconst (v := (0 : Int32)) hx hb d_mo_calls_0 (by decide) ?_
  refine lv_istore_n (lv' := [(2, .int (0 : Int32)), (0, .ref g0), (1, .int p0)]) hx hb d_mo_calls_1 rfl hl (by decide) rfl (fun ls hl => ?_)
  refine lv_iconst (v := (1 : Int32)) hx hb d_mo_calls_2 (by decide) ?_
  refine lv_istore_n (lv' := [(3, .int (1 : Int32)), (2, .int (0 : Int32)), (0, .ref g0), (1, .int p0)]) hx hb d_mo_calls_3 rfl hl (by decide) rfl (fun ls hl => ?_)
  refine lp_ (X := Int32) (A := A) (D := D) (H0 := s.heap) (fun x9 : Int32 => [(g0, .inr (8, [.int w_th, .int w_pv, .int w_pc, .ref g1, .ref g2, .ref g3, .ref g4, .ref g5, .ref g6, .ref g7, .ref g8, .long w_ti, .long w_co, .int w_so, .int w_st, .int w_ge, .int w_gi, .int w_wn, .int w_wr, .ref g9, .ref gA, .ref gB])), (g1, .inl (k.2.1, 16, .inl w_ed)), (g2, .inl (k.2.1, 16, .inl w_li)), (g3, .inl (k.1, 16, .inl w_pr)), (g4, .inl (k.2.1, 16, .inl w_pn)), (g5, .inl (k.1, 16, .inl w_se)), (g6, .inl (k.1, 16, .inl w_wa)), (g7, .inl (k.1, 2, .inl w_en)), (g8, .inl (k.1, 2, .inl w_tt)), (g9, .inl (k.1, 2, .inl w_ve)), (gA, .inl (k.1, 2, .inl w_ba)), (gB, .inl (k.1, 2, .inl w_ca))]) (fun n9 i9 (x9 : Int32) => [(3, .int (nI i9)), (2, .int x9), (0, .ref g0), (1, .int p0)]) (fun n9 i9 (x9 : Int32) => f_mo_calls w_pr w_pn w_en w_tt p0 = f_mo_calls_L4 w_pr w_pn w_en w_tt p0 n9 i9 x9 ∧ narrow .boolean (.int x9) = .int x9) 4 4 16 (fun i x9 H locs ls hi hF hP hD hS hl => ?_) (fun n i x9 H locs ls hi hF hP hD hS hl ih => ?_) 15 1 (0 : Int32) _ _ _ rfl ⟨by rw [hF]; unfold f_mo_calls; rfl, rfl⟩ (hP.sub [0, 1, 2, 3, 4, 5, 6, 7, 8, 9, 10, 11] rfl) (hD.sub [0, 1, 2, 3, 4, 5, 6, 7, 8, 9, 10, 11] (by decide) rfl) hS (lv_sub hl [0, 1, 2, 3] rfl)
  · obtain ⟨z4_0, rfl⟩ : ∃ z, z = x9 := ⟨_, rfl⟩
    obtain ⟨hF, hI⟩ := hF
    have hI : narrow .boolean (.int z4_0) = .int z4_0 := hI
    have hF : f_mo_calls w_pr w_pn w_en w_tt p0 = f_mo_calls_L4 w_pr w_pn w_en w_tt p0 0 i z4_0 := hF
    have hP : va_P D cls [(g0, .inr (8, [.int w_th, .int w_pv, .int w_pc, .ref g1, .ref g2, .ref g3, .ref g4, .ref g5, .ref g6, .ref g7, .ref g8, .long w_ti, .long w_co, .int w_so, .int w_st, .int w_ge, .int w_gi, .int w_wn, .int w_wr, .ref g9, .ref gA, .ref gB])), (g1, .inl (k.2.1, 16, .inl w_ed)), (g2, .inl (k.2.1, 16, .inl w_li)), (g3, .inl (k.1, 16, .inl w_pr)), (g4, .inl (k.2.1, 16, .inl w_pn)), (g5, .inl (k.1, 16, .inl w_se)), (g6, .inl (k.1, 16, .inl w_wa)), (g7, .inl (k.1, 2, .inl w_en)), (g8, .inl (k.1, 2, .inl w_tt)), (g9, .inl (k.1, 2, .inl w_ve)), (gA, .inl (k.1, 2, .inl w_ba)), (gB, .inl (k.1, 2, .inl w_ca))] H := hP
    have hD : va_D A [(g0, .inr (8, [.int w_th, .int w_pv, .int w_pc, .ref g1, .ref g2, .ref g3, .ref g4, .ref g5, .ref g6, .ref g7, .ref g8, .long w_ti, .long w_co, .int w_so, .int w_st, .int w_ge, .int w_gi, .int w_wn, .int w_wr, .ref g9, .ref gA, .ref gB])), (g1, .inl (k.2.1, 16, .inl w_ed)), (g2, .inl (k.2.1, 16, .inl w_li)), (g3, .inl (k.1, 16, .inl w_pr)), (g4, .inl (k.2.1, 16, .inl w_pn)), (g5, .inl (k.1, 16, .inl w_se)), (g6, .inl (k.1, 16, .inl w_wa)), (g7, .inl (k.1, 2, .inl w_en)), (g8, .inl (k.1, 2, .inl w_tt)), (g9, .inl (k.1, 2, .inl w_ve)), (gA, .inl (k.1, 2, .inl w_ba)), (gB, .inl (k.1, 2, .inl w_ca))] := hD
    have hl : lv_has ls 4 [(3, .int (nI i)), (2, .int z4_0), (0, .ref g0), (1, .int p0)] := hl
    refine lv_iload_n hx hb d_mo_calls_4 rfl (lv_at hl 0 rfl) ?_
    refine lv_bipush (v := (16 : Int32)) hx hb d_mo_calls_5 (by decide) ?_
    refine lv_icmp_ge (tgt := 59) hx hb d_mo_calls_7 (by decide) (fun c9 => ?_) (fun c9 => absurd (by subst hi; decide) c9)
    refine lv_iload_n hx hb d_mo_calls_59 rfl (lv_at hl 1 rfl) ?_
    have hE : f_mo_calls w_pr w_pn w_en w_tt p0 = z4_0 := by
      rw [hF, f_mo_calls_L4]
    rw [hE]
    exact rt_z hx hb hr hlocks hP hD hK hS [0, 1, 2, 3, 4, 5, 6, 7, 8, 9, 10, 11] rfl (by decide) rfl rfl hI d_mo_calls_60
  · obtain ⟨z4_0, rfl⟩ : ∃ z, z = x9 := ⟨_, rfl⟩
    obtain ⟨hF, hI⟩ := hF
    have hI : narrow .boolean (.int z4_0) = .int z4_0 := hI
    have hF : f_mo_calls w_pr w_pn w_en w_tt p0 = f_mo_calls_L4 w_pr w_pn w_en w_tt p0 (n + 1) i z4_0 := hF
    have hP : va_P D cls [(g0, .inr (8, [.int w_th, .int w_pv, .int w_pc, .ref g1, .ref g2, .ref g3, .ref g4, .ref g5, .ref g6, .ref g7, .ref g8, .long w_ti, .long w_co, .int w_so, .int w_st, .int w_ge, .int w_gi, .int w_wn, .int w_wr, .ref g9, .ref gA, .ref gB])), (g1, .inl (k.2.1, 16, .inl w_ed)), (g2, .inl (k.2.1, 16, .inl w_li)), (g3, .inl (k.1, 16, .inl w_pr)), (g4, .inl (k.2.1, 16, .inl w_pn)), (g5, .inl (k.1, 16, .inl w_se)), (g6, .inl (k.1, 16, .inl w_wa)), (g7, .inl (k.1, 2, .inl w_en)), (g8, .inl (k.1, 2, .inl w_tt)), (g9, .inl (k.1, 2, .inl w_ve)), (gA, .inl (k.1, 2, .inl w_ba)), (gB, .inl (k.1, 2, .inl w_ca))] H := hP
    have hD : va_D A [(g0, .inr (8, [.int w_th, .int w_pv, .int w_pc, .ref g1, .ref g2, .ref g3, .ref g4, .ref g5, .ref g6, .ref g7, .ref g8, .long w_ti, .long w_co, .int w_so, .int w_st, .int w_ge, .int w_gi, .int w_wn, .int w_wr, .ref g9, .ref gA, .ref gB])), (g1, .inl (k.2.1, 16, .inl w_ed)), (g2, .inl (k.2.1, 16, .inl w_li)), (g3, .inl (k.1, 16, .inl w_pr)), (g4, .inl (k.2.1, 16, .inl w_pn)), (g5, .inl (k.1, 16, .inl w_se)), (g6, .inl (k.1, 16, .inl w_wa)), (g7, .inl (k.1, 2, .inl w_en)), (g8, .inl (k.1, 2, .inl w_tt)), (g9, .inl (k.1, 2, .inl w_ve)), (gA, .inl (k.1, 2, .inl w_ba)), (gB, .inl (k.1, 2, .inl w_ca))] := hD
    have hl : lv_has ls 4 [(3, .int (nI i)), (2, .int z4_0), (0, .ref g0), (1, .int p0)] := hl
    refine lv_iload_n hx hb d_mo_calls_4 rfl (lv_at hl 0 rfl) ?_
    refine lv_bipush (v := (16 : Int32)) hx hb d_mo_calls_5 (by decide) ?_
    refine lv_icmp_ge (tgt := 59) hx hb d_mo_calls_7 (by decide) (fun c9 => absurd c9 (nI_ge (b := 16) (by omega) (by decide))) (fun c9 => ?_)
    refine lv_iload_n hx hb d_mo_calls_10 rfl (lv_at hl 1 rfl) ?_
    refine lv_if_ne (tgt := 47) hx hb d_mo_calls_11 (by decide) (fun c1 => ?_) (fun c1 => ?_)
    · refine lv_iconst (v := (1 : Int32)) hx hb d_mo_calls_47 (by decide) ?_
      refine lv_goto (tgt := 52) hx hb d_mo_calls_48 (by decide) ?_
      refine lv_istore_n (lv' := [(2, .int (1 : Int32)), (3, .int (nI i)), (0, .ref g0), (1, .int p0)]) hx hb d_mo_calls_52 rfl hl (by decide) rfl (fun ls hl => ?_)
      refine lv_iinc (v := nI (i + 1)) (lv' := [(3, .int (nI (i + 1))), (2, .int (1 : Int32)), (0, .ref g0), (1, .int p0)]) hx hb d_mo_calls_53 hl (k := 1) rfl (nI_1 i) (by decide) rfl (fun ls hl => ?_)
      refine lv_goto (tgt := 4) hx hb d_mo_calls_56 (by decide) ?_
      exact ih (1 : Int32) _ _ _ ⟨by rw [hF, f_mo_calls_L4, if_neg c1], rfl⟩ (hP.sub [0, 1, 2, 3, 4, 5, 6, 7, 8, 9, 10, 11] rfl) (hD.sub [0, 1, 2, 3, 4, 5, 6, 7, 8, 9, 10, 11] (by decide) rfl) hS (lv_sub hl [0, 1, 2, 3] rfl)
    · refine lv_aload_n hx hb d_mo_calls_14 rfl (lv_at hl 2 rfl) ?_
      refine va_get (D := D) (ci := 8) (v := .ref g4) (C := R_mo) (T := T_mo) (N := 22) hx hb hts iu_mo hown hK hP 0 rfl rfl 6 (by decide) (hts _ m_612) (fun _ h9 => h9) rfl d_mo_calls_15 ?_
      refine lv_iload_n hx hb d_mo_calls_18 rfl (lv_at hl 0 rfl) ?_
      refine va_zald hx hb hK hP 4 1 rfl rfl (vp_in_nI (by omega) (by decide)) d_mo_calls_19 ?_
      refine lv_if_eq (tgt := 51) hx hb d_mo_calls_20 (by decide) (fun c2 => ?_) (fun c2 => ?_)
      · refine lv_iconst (v := (0 : Int32)) hx hb d_mo_calls_51 (by decide) ?_
        refine lv_istore_n (lv' := [(2, .int (0 : Int32)), (3, .int (nI i)), (0, .ref g0), (1, .int p0)]) hx hb d_mo_calls_52 rfl hl (by decide) rfl (fun ls hl => ?_)
        refine lv_iinc (v := nI (i + 1)) (lv' := [(3, .int (nI (i + 1))), (2, .int (0 : Int32)), (0, .ref g0), (1, .int p0)]) hx hb d_mo_calls_53 hl (k := 1) rfl (nI_1 i) (by decide) rfl (fun ls hl => ?_)
        refine lv_goto (tgt := 4) hx hb d_mo_calls_56 (by decide) ?_
        exact ih (0 : Int32) _ _ _ ⟨by rw [hF, f_mo_calls_L4, if_pos c1, if_pos c2], rfl⟩ (hP.sub [0, 1, 2, 3, 4, 5, 6, 7, 8, 9, 10, 11] rfl) (hD.sub [0, 1, 2, 3, 4, 5, 6, 7, 8, 9, 10, 11] (by decide) rfl) hS (lv_sub hl [0, 1, 2, 3] rfl)
      · refine lv_aload_n hx hb d_mo_calls_23 rfl (lv_at hl 2 rfl) ?_
        refine lv_iload_n hx hb d_mo_calls_24 rfl (lv_at hl 3 rfl) ?_
        refine lv_iload_n hx hb d_mo_calls_25 rfl (lv_at hl 0 rfl) ?_
        refine fn_i (rn_V (own := "TrapHartModel") (index := 64) (n := 2) (C := "TrapHartModel") (As := [.int p0, .int (nI i)]) (rest := []) (isC := [0, 1, 2, 3, 4, 5, 6, 7, 8, 9, 10, 11]) (ws := [(g0, .inr (8, [.int w_th, .int w_pv, .int w_pc, .ref g1, .ref g2, .ref g3, .ref g4, .ref g5, .ref g6, .ref g7, .ref g8, .long w_ti, .long w_co, .int w_so, .int w_st, .int w_ge, .int w_gi, .int w_wn, .int w_wr, .ref g9, .ref gA, .ref gB])), (g1, .inl (k.2.1, 16, .inl w_ed)), (g2, .inl (k.2.1, 16, .inl w_li)), (g3, .inl (k.1, 16, .inl w_pr)), (g4, .inl (k.2.1, 16, .inl w_pn)), (g5, .inl (k.1, 16, .inl w_se)), (g6, .inl (k.1, 16, .inl w_wa)), (g7, .inl (k.1, 2, .inl w_en)), (g8, .inl (k.1, 2, .inl w_tt)), (g9, .inl (k.1, 2, .inl w_ve)), (gA, .inl (k.1, 2, .inl w_ba)), (gB, .inl (k.1, 2, .inl w_ca))]) (wc := [(g0, .inr (8, [.int w_th, .int w_pv, .int w_pc, .ref g1, .ref g2, .ref g3, .ref g4, .ref g5, .ref g6, .ref g7, .ref g8, .long w_ti, .long w_co, .int w_so, .int w_st, .int w_ge, .int w_gi, .int w_wn, .int w_wr, .ref g9, .ref gA, .ref gB])), (g1, .inl (k.2.1, 16, .inl w_ed)), (g2, .inl (k.2.1, 16, .inl w_li)), (g3, .inl (k.1, 16, .inl w_pr)), (g4, .inl (k.2.1, 16, .inl w_pn)), (g5, .inl (k.1, 16, .inl w_se)), (g6, .inl (k.1, 16, .inl w_wa)), (g7, .inl (k.1, 2, .inl w_en)), (g8, .inl (k.1, 2, .inl w_tt)), (g9, .inl (k.1, 2, .inl w_ve)), (gA, .inl (k.1, 2, .inl w_ba)), (gB, .inl (k.1, 2, .inl w_ca))]) ⟨hx, hb, hml, hown, hts⟩ (c_mo_isEnabled l D k g0 g1 g2 g3 g4 g5 g6 g7 g8 g9 gA gB H.size w_th w_pv w_pc w_ti w_co w_so w_st w_ge w_gi w_wn w_wr w_ed w_li w_pr w_pn w_se w_wa w_en w_tt w_ve w_ba w_ca p0 (nI i) hc) (gd_V uW_id m_715 m_717 ms_35 m_9 m_718) rfl rfl (by decide +kernel) ⟨Nat.le_of_ble_eq_true rfl, Nat.le_of_ble_eq_true rfl⟩ hP hK hD hN hV hS hA rfl (by decide) rfl rfl rfl rfl rfl hl.1 rfl (lv_room (Nat.le_of_ble_eq_true rfl)) d_mo_calls_26 ⟨Nat.le_of_ble_eq_true rfl, Nat.le_of_ble_eq_true rfl⟩) hP hD hS hA [0, 1, 2, 3, 4, 5, 6, 7, 8, 9, 10, 11] [] (wr := []) rfl rfl (by decide) (by decide) (fun H locs hP hD hS => ?_)
        have hP : va_P D cls [(g0, .inr (8, [.int w_th, .int w_pv, .int w_pc, .ref g1, .ref g2, .ref g3, .ref g4, .ref g5, .ref g6, .ref g7, .ref g8, .long w_ti, .long w_co, .int w_so, .int w_st, .int w_ge, .int w_gi, .int w_wn, .int w_wr, .ref g9, .ref gA, .ref gB])), (g1, .inl (k.2.1, 16, .inl w_ed)), (g2, .inl (k.2.1, 16, .inl w_li)), (g3, .inl (k.1, 16, .inl w_pr)), (g4, .inl (k.2.1, 16, .inl w_pn)), (g5, .inl (k.1, 16, .inl w_se)), (g6, .inl (k.1, 16, .inl w_wa)), (g7, .inl (k.1, 2, .inl w_en)), (g8, .inl (k.1, 2, .inl w_tt)), (g9, .inl (k.1, 2, .inl w_ve)), (gA, .inl (k.1, 2, .inl w_ba)), (gB, .inl (k.1, 2, .inl w_ca))] H := hP
        have hD : va_D A [(g0, .inr (8, [.int w_th, .int w_pv, .int w_pc, .ref g1, .ref g2, .ref g3, .ref g4, .ref g5, .ref g6, .ref g7, .ref g8, .long w_ti, .long w_co, .int w_so, .int w_st, .int w_ge, .int w_gi, .int w_wn, .int w_wr, .ref g9, .ref gA, .ref gB])), (g1, .inl (k.2.1, 16, .inl w_ed)), (g2, .inl (k.2.1, 16, .inl w_li)), (g3, .inl (k.1, 16, .inl w_pr)), (g4, .inl (k.2.1, 16, .inl w_pn)), (g5, .inl (k.1, 16, .inl w_se)), (g6, .inl (k.1, 16, .inl w_wa)), (g7, .inl (k.1, 2, .inl w_en)), (g8, .inl (k.1, 2, .inl w_tt)), (g9, .inl (k.1, 2, .inl w_ve)), (gA, .inl (k.1, 2, .inl w_ba)), (gB, .inl (k.1, 2, .inl w_ca))] := hD
        refine lv_if_eq (tgt := 51) hx hb d_mo_calls_29 (by decide) (fun c3 => ?_) (fun c3 => ?_)
        · refine lv_iconst (v := (0 : Int32)) hx hb d_mo_calls_51 (by decide) ?_
          refine lv_istore_n (lv' := [(2, .int (0 : Int32)), (3, .int (nI i)), (0, .ref g0), (1, .int p0)]) hx hb d_mo_calls_52 rfl hl (by decide) rfl (fun ls hl => ?_)
          refine lv_iinc (v := nI (i + 1)) (lv' := [(3, .int (nI (i + 1))), (2, .int (0 : Int32)), (0, .ref g0), (1, .int p0)]) hx hb d_mo_calls_53 hl (k := 1) rfl (nI_1 i) (by decide) rfl (fun ls hl => ?_)
          refine lv_goto (tgt := 4) hx hb d_mo_calls_56 (by decide) ?_
          exact ih (0 : Int32) _ _ _ ⟨by rw [hF, f_mo_calls_L4, if_pos c1, if_neg c2, if_pos c3], rfl⟩ (hP.sub [0, 1, 2, 3, 4, 5, 6, 7, 8, 9, 10, 11] rfl) (hD.sub [0, 1, 2, 3, 4, 5, 6, 7, 8, 9, 10, 11] (by decide) rfl) hS (lv_sub hl [0, 1, 2, 3] rfl)
        · refine lv_aload_n hx hb d_mo_calls_32 rfl (lv_at hl 2 rfl) ?_
          refine va_get (D := D) (ci := 8) (v := .ref g3) (C := R_mo) (T := T_mo) (N := 22) hx hb hts iu_mo hown hK hP 0 rfl rfl 5 (by decide) (hts _ m_611) (fun _ h9 => h9) rfl d_mo_calls_33 ?_
          refine lv_iload_n hx hb d_mo_calls_36 rfl (lv_at hl 0 rfl) ?_
          refine va_iald hx hb hK hP 3 0 rfl rfl (vp_in_nI (by omega) (by decide)) d_mo_calls_37 ?_
          refine lv_aload_n hx hb d_mo_calls_38 rfl (lv_at hl 2 rfl) ?_
          refine va_get (D := D) (ci := 8) (v := .ref g8) (C := R_mo) (T := T_mo) (N := 22) hx hb hts iu_mo hown hK hP 0 rfl rfl 10 (by decide) (hts _ m_616) (fun _ h9 => h9) rfl d_mo_calls_39 ?_
          refine lv_iload_n hx hb d_mo_calls_42 rfl (lv_at hl 3 rfl) ?_
          refine va_iald hx hb hK hP 8 0 rfl rfl hc d_mo_calls_43 ?_
          refine lv_icmp_le (tgt := 51) hx hb d_mo_calls_44 (by decide) (fun c4 => ?_) (fun c4 => ?_)
          · refine lv_iconst (v := (0 : Int32)) hx hb d_mo_calls_51 (by decide) ?_
            refine lv_istore_n (lv' := [(2, .int (0 : Int32)), (3, .int (nI i)), (0, .ref g0), (1, .int p0)]) hx hb d_mo_calls_52 rfl hl (by decide) rfl (fun ls hl => ?_)
            refine lv_iinc (v := nI (i + 1)) (lv' := [(3, .int (nI (i + 1))), (2, .int (0 : Int32)), (0, .ref g0), (1, .int p0)]) hx hb d_mo_calls_53 hl (k := 1) rfl (nI_1 i) (by decide) rfl (fun ls hl => ?_)
            refine lv_goto (tgt := 4) hx hb d_mo_calls_56 (by decide) ?_
            exact ih (0 : Int32) _ _ _ ⟨by rw [hF, f_mo_calls_L4, if_pos c1, if_neg c2, if_neg c3, if_pos c4], rfl⟩ (hP.sub [0, 1, 2, 3, 4, 5, 6, 7, 8, 9, 10, 11] rfl) (hD.sub [0, 1, 2, 3, 4, 5, 6, 7, 8, 9, 10, 11] (by decide) rfl) hS (lv_sub hl [0, 1, 2, 3] rfl)
          · refine lv_iconst (v := (1 : Int32)) hx hb d_mo_calls_47 (by decide) ?_
            refine lv_goto (tgt := 52) hx hb d_mo_calls_48 (by decide) ?_
            refine lv_istore_n (lv' := [(2, .int (1 : Int32)), (3, .int (nI i)), (0, .ref g0), (1, .int p0)]) hx hb d_mo_calls_52 rfl hl (by decide) rfl (fun ls hl => ?_)
            refine lv_iinc (v := nI (i + 1)) (lv' := [(3, .int (nI (i + 1))), (2, .int (1 : Int32)), (0, .ref g0), (1, .int p0)]) hx hb d_mo_calls_53 hl (k := 1) rfl (nI_1 i) (by decide) rfl (fun ls hl => ?_)
            refine lv_goto (tgt := 4) hx hb d_mo_calls_56 (by decide) ?_
            exact ih (1 : Int32) _ _ _ ⟨by rw [hF, f_mo_calls_L4, if_pos c1, if_neg c2, if_neg c3, if_neg c4], rfl⟩ (hP.sub [0, 1, 2, 3, 4, 5, 6, 7, 8, 9, 10, 11] rfl) (hD.sub [0, 1, 2, 3, 4, 5, 6, 7, 8, 9, 10, 11] (by decide) rfl) hS (lv_sub hl [0, 1, 2, 3] rfl)
def f_mo_ticks_10 (w_ti : Int64) (p0 : Int32) (x1 : Int32) : Int32 × Int64 := (if p0 < 0 then (x1, w_ti) else (x1, w_ti + ((p0 : Int32).toInt64)))
def f_mo_ticks (w_ti : Int64) (p0 : Int32) : Int32 × Int64 := (if 0 ≤ p0 then (f_mo_ticks_10 w_ti p0 (0 : Int32)) else (f_mo_ticks_10 w_ti p0 (1 : Int32)))
set_option maxHeartbeats 4000000 in
set_option maxRecDepth 100000 in
theorem c_mo_ticks (l : Launch) (D : va_G) (k : k3) (g0 : Nat) (g1 : Nat) (g2 : Nat) (g3 : Nat) (g4 : Nat) (g5 : Nat) (g6 : Nat) (g7 : Nat) (g8 : Nat) (g9 : Nat) (gA : Nat) (gB : Nat) (sz : Nat) (w_th : Int32) (w_pv : Int32) (w_pc : Int32) (w_ti : Int64) (w_co : Int64) (w_so : Int32) (w_st : Int32) (w_ge : Int32) (w_gi : Int32) (w_wn : Int32) (w_wr : Int32) (w_ed : (Nat → Int32)) (w_li : (Nat → Int32)) (w_pr : (Nat → Int32)) (w_pn : (Nat → Int32)) (w_se : (Nat → Int32)) (w_wa : (Nat → Int32)) (w_en : (Nat → Int32)) (w_tt : (Nat → Int32)) (w_ve : (Nat → Int32)) (w_ba : (Nat → Int32)) (w_ca : (Nat → Int32)) (p0 : Int32) : Met l y_mo_ticks (Cond.code y_mo_ticks b_mo_ticks 2 none :: uW) ({ frames := 0, cells := 0, slots := 0, locals := 0 }) (va_Pc [.ref g0, .int p0] (pr_ D k sz [(g0, .inr (8, [.int w_th, .int w_pv, .int w_pc, .ref g1, .ref g2, .ref g3, .ref g4, .ref g5, .ref g6, .ref g7, .ref g8, .long w_ti, .long w_co, .int w_so, .int w_st, .int w_ge, .int w_gi, .int w_wn, .int w_wr, .ref g9, .ref gA, .ref gB])), (g1, .inl (k.2.1, 16, .inl w_ed)), (g2, .inl (k.2.1, 16, .inl w_li)), (g3, .inl (k.1, 16, .inl w_pr)), (g4, .inl (k.2.1, 16, .inl w_pn)), (g5, .inl (k.1, 16, .inl w_se)), (g6, .inl (k.1, 16, .inl w_wa)), (g7, .inl (k.1, 2, .inl w_en)), (g8, .inl (k.1, 2, .inl w_tt)), (g9, .inl (k.1, 2, .inl w_ve)), (gA, .inl (k.1, 2, .inl w_ba)), (gB, .inl (k.1, 2, .inl w_ca))])) (va_Qv (fun (_ : Unit) => True) (fun _ t => po_ D k (va_A [(g0, .inr (8, [.int w_th, .int w_pv, .int w_pc, .ref g1, .ref g2, .ref g3, .ref g4, .ref g5, .ref g6, .ref g7, .ref g8, .long w_ti, .long w_co, .int w_so, .int w_st, .int w_ge, .int w_gi, .int w_wn, .int w_wr, .ref g9, .ref gA, .ref gB])), (g1, .inl (k.2.1, 16, .inl w_ed)), (g2, .inl (k.2.1, 16, .inl w_li)), (g3, .inl (k.1, 16, .inl w_pr)), (g4, .inl (k.2.1, 16, .inl w_pn)), (g5, .inl (k.1, 16, .inl w_se)), (g6, .inl (k.1, 16, .inl w_wa)), (g7, .inl (k.1, 2, .inl w_en)), (g8, .inl (k.1, 2, .inl w_tt)), (g9, .inl (k.1, 2, .inl w_ve)), (gA, .inl (k.1, 2, .inl w_ba)), (gB, .inl (k.1, 2, .inl w_ca))] sz) [(g0, .inr (8, [.int ((f_mo_ticks w_ti p0).1), .int w_pv, .int w_pc, .ref g1, .ref g2, .ref g3, .ref g4, .ref g5, .ref g6, .ref g7, .ref g8, .long ((f_mo_ticks w_ti p0).2), .long w_co, .int w_so, .int w_st, .int w_ge, .int w_gi, .int w_wn, .int w_wr, .ref g9, .ref gA, .ref gB])), (g1, .inl (k.2.1, 16, .inl w_ed)), (g2, .inl (k.2.1, 16, .inl w_li)), (g3, .inl (k.1, 16, .inl w_pr)), (g4, .inl (k.2.1, 16, .inl w_pn)), (g5, .inl (k.1, 16, .inl w_se)), (g6, .inl (k.1, 16, .inl w_wa)), (g7, .inl (k.1, 2, .inl w_en)), (g8, .inl (k.1, 2, .inl w_tt)), (g9, .inl (k.1, 2, .inl w_ve)), (gA, .inl (k.1, 2, .inl w_ba)), (gB, .inl (k.1, 2, .inl w_ca))] t) (va_A [(g0, .inr (8, [.int w_th, .int w_pv, .int w_pc, .ref g1, .ref g2, .ref g3, .ref g4, .ref g5, .ref g6, .ref g7, .ref g8, .long w_ti, .long w_co, .int w_so, .int w_st, .int w_ge, .int w_gi, .int w_wn, .int w_wr, .ref g9, .ref gA, .ref gB])), (g1, .inl (k.2.1, 16, .inl w_ed)), (g2, .inl (k.2.1, 16, .inl w_li)), (g3, .inl (k.1, 16, .inl w_pr)), (g4, .inl (k.2.1, 16, .inl w_pn)), (g5, .inl (k.1, 16, .inl w_se)), (g6, .inl (k.1, 16, .inl w_wa)), (g7, .inl (k.1, 2, .inl w_en)), (g8, .inl (k.1, 2, .inl w_tt)), (g9, .inl (k.1, 2, .inl w_ve)), (gA, .inl (k.1, 2, .inl w_ba)), (gB, .inl (k.1, 2, .inl w_ca))] sz)) 0 0 (va_A [(g0, .inr (8, [.int w_th, .int w_pv, .int w_pc, .ref g1, .ref g2, .ref g3, .ref g4, .ref g5, .ref g6, .ref g7, .ref g8, .long w_ti, .long w_co, .int w_so, .int w_st, .int w_ge, .int w_gi, .int w_wn, .int w_wr, .ref g9, .ref gA, .ref gB])), (g1, .inl (k.2.1, 16, .inl w_ed)), (g2, .inl (k.2.1, 16, .inl w_li)), (g3, .inl (k.1, 16, .inl w_pr)), (g4, .inl (k.2.1, 16, .inl w_pn)), (g5, .inl (k.1, 16, .inl w_se)), (g6, .inl (k.1, 16, .inl w_wa)), (g7, .inl (k.1, 2, .inl w_en)), (g8, .inl (k.1, 2, .inl w_tt)), (g9, .inl (k.1, 2, .inl w_ve)), (gA, .inl (k.1, 2, .inl w_ba)), (gB, .inl (k.1, 2, .inl w_ca))] sz) := by
  refine en_ (by decide) ?_
  intro p e s m below meth c hsz hx hb hr hml hown hts hlocks hin hP hK hD hN hV
  subst hsz
  generalize hAe : va_A [(g0, .inr (8, [.int w_th, .int w_pv, .int w_pc, .ref g1, .ref g2, .ref g3, .ref g4, .ref g5, .ref g6, .ref g7, .ref g8, .long w_ti, .long w_co, .int w_so, .int w_st, .int w_ge, .int w_gi, .int w_wn, .int w_wr, .ref g9, .ref gA, .ref gB])), (g1, .inl (k.2.1, 16, .inl w_ed)), (g2, .inl (k.2.1, 16, .inl w_li)), (g3, .inl (k.1, 16, .inl w_pr)), (g4, .inl (k.2.1, 16, .inl w_pn)), (g5, .inl (k.1, 16, .inl w_se)), (g6, .inl (k.1, 16, .inl w_wa)), (g7, .inl (k.1, 2, .inl w_en)), (g8, .inl (k.1, 2, .inl w_tt)), (g9, .inl (k.1, 2, .inl w_ve)), (gA, .inl (k.1, 2, .inl w_ba)), (gB, .inl (k.1, 2, .inl w_ca))] s.heap.size = A at hD hV ⊢
  have hA : ∀ q : Nat, s.heap.size ≤ q → A q := fun q h => by rw [← hAe]; exact Or.inr h
  have hS : va_S A s.heap s.heap [] := va_S.rf
  have hF : f_mo_ticks w_ti p0 = f_mo_ticks w_ti p0 := rfl
  have hl := lv_entry ([.ref g0, .int p0]) (n := 2) (Nat.le_of_ble_eq_true rfl)
  rw [lg_entry_eq]
  generalize (lg_sl ([.ref g0, .int p0]) ++ List.replicate (2 - (lg_sl ([.ref g0, .int p0])).length) Slot.unset).toArray = ls at hl ⊢
  have hl : lv_has ls 2 [(0, .ref g0), (1, .int p0)] := hl
  obtain ⟨H, hH⟩ : ∃ z, z = s.heap := ⟨_, rfl⟩
  have hP : va_P D cls [(g0, .inr (8, [.int w_th, .int w_pv, .int w_pc, .ref g1, .ref g2, .ref g3, .ref g4, .ref g5, .ref g6, .ref g7, .ref g8, .long w_ti, .long w_co, .int w_so, .int w_st, .int w_ge, .int w_gi, .int w_wn, .int w_wr, .ref g9, .ref gA, .ref gB])), (g1, .inl (k.2.1, 16, .inl w_ed)), (g2, .inl (k.2.1, 16, .inl w_li)), (g3, .inl (k.1, 16, .inl w_pr)), (g4, .inl (k.2.1, 16, .inl w_pn)), (g5, .inl (k.1, 16, .inl w_se)), (g6, .inl (k.1, 16, .inl w_wa)), (g7, .inl (k.1, 2, .inl w_en)), (g8, .inl (k.1, 2, .inl w_tt)), (g9, .inl (k.1, 2, .inl w_ve)), (gA, .inl (k.1, 2, .inl w_ba)), (gB, .inl (k.1, 2, .inl w_ca))] H := by rw [hH]; exact hP
  have hS : va_S A s.heap H [] := by rw [hH]; exact hS
  refine wH_ hH ?_
  refine lv_aload_n hx hb d_mo_ticks_0 rfl (lv_at hl 0 rfl) ?_
  refine lv_iload_n hx hb d_mo_ticks_1 rfl (lv_at hl 1 rfl) ?_
  refine jn_ (X := Int32) (A := A) (D := D) (H0 := s.heap) (fun x1 : Int32 => [(g0, .inr (8, [.int w_th, .int w_pv, .int w_pc, .ref g1, .ref g2, .ref g3, .ref g4, .ref g5, .ref g6, .ref g7, .ref g8, .long w_ti, .long w_co, .int w_so, .int w_st, .int w_ge, .int w_gi, .int w_wn, .int w_wr, .ref g9, .ref gA, .ref gB])), (g1, .inl (k.2.1, 16, .inl w_ed)), (g2, .inl (k.2.1, 16, .inl w_li)), (g3, .inl (k.1, 16, .inl w_pr)), (g4, .inl (k.2.1, 16, .inl w_pn)), (g5, .inl (k.1, 16, .inl w_se)), (g6, .inl (k.1, 16, .inl w_wa)), (g7, .inl (k.1, 2, .inl w_en)), (g8, .inl (k.1, 2, .inl w_tt)), (g9, .inl (k.1, 2, .inl w_ve)), (gA, .inl (k.1, 2, .inl w_ba)), (gB, .inl (k.1, 2, .inl w_ca))]) (fun x1 : Int32 => [.int x1, .ref g0]) (fun x1 : Int32 => [(0, .ref g0), (1, .int p0)]) (fun x1 : Int32 => f_mo_ticks w_ti p0 = f_mo_ticks_10 w_ti p0 x1) 10 2 (fun J => ?_) (fun x9 H locs ls hF hP hD hS hl => ?_)
  · refine lv_if_ge (tgt := 9) hx hb d_mo_ticks_2 (by decide) (fun c1 => ?_) (fun c1 => ?_)
    · refine lv_iconst (v := (0 : Int32)) hx hb d_mo_ticks_9 (by decide) ?_
      exact J (0 : Int32) _ _ _ (by rw [hF]; unfold f_mo_ticks; rw [if_pos c1]) (hP.sub [0, 1, 2, 3, 4, 5, 6, 7, 8, 9, 10, 11] rfl) (hD.sub [0, 1, 2, 3, 4, 5, 6, 7, 8, 9, 10, 11] (by decide) rfl) hS (lv_sub hl [0, 1] rfl)
    · refine lv_iconst (v := (1 : Int32)) hx hb d_mo_ticks_5 (by decide) ?_
      refine lv_goto (tgt := 10) hx hb d_mo_ticks_6 (by decide) ?_
      exact J (1 : Int32) _ _ _ (by rw [hF]; unfold f_mo_ticks; rw [if_neg c1]) (hP.sub [0, 1, 2, 3, 4, 5, 6, 7, 8, 9, 10, 11] rfl) (hD.sub [0, 1, 2, 3, 4, 5, 6, 7, 8, 9, 10, 11] (by decide) rfl) hS (lv_sub hl [0, 1] rfl)
  · obtain ⟨x1, rfl⟩ : ∃ z, z = x9 := ⟨_, rfl⟩
    have hF : f_mo_ticks w_ti p0 = f_mo_ticks_10 w_ti p0 x1 := hF
    have hP : va_P D cls [(g0, .inr (8, [.int w_th, .int w_pv, .int w_pc, .ref g1, .ref g2, .ref g3, .ref g4, .ref g5, .ref g6, .ref g7, .ref g8, .long w_ti, .long w_co, .int w_so, .int w_st, .int w_ge, .int w_gi, .int w_wn, .int w_wr, .ref g9, .ref gA, .ref gB])), (g1, .inl (k.2.1, 16, .inl w_ed)), (g2, .inl (k.2.1, 16, .inl w_li)), (g3, .inl (k.1, 16, .inl w_pr)), (g4, .inl (k.2.1, 16, .inl w_pn)), (g5, .inl (k.1, 16, .inl w_se)), (g6, .inl (k.1, 16, .inl w_wa)), (g7, .inl (k.1, 2, .inl w_en)), (g8, .inl (k.1, 2, .inl w_tt)), (g9, .inl (k.1, 2, .inl w_ve)), (gA, .inl (k.1, 2, .inl w_ba)), (gB, .inl (k.1, 2, .inl w_ca))] H := hP
    have hD : va_D A [(g0, .inr (8, [.int w_th, .int w_pv, .int w_pc, .ref g1, .ref g2, .ref g3, .ref g4, .ref g5, .ref g6, .ref g7, .ref g8, .long w_ti, .long w_co, .int w_so, .int w_st, .int w_ge, .int w_gi, .int w_wn, .int w_wr, .ref g9, .ref gA, .ref gB])), (g1, .inl (k.2.1, 16, .inl w_ed)), (g2, .inl (k.2.1, 16, .inl w_li)), (g3, .inl (k.1, 16, .inl w_pr)), (g4, .inl (k.2.1, 16, .inl w_pn)), (g5, .inl (k.1, 16, .inl w_se)), (g6, .inl (k.1, 16, .inl w_wa)), (g7, .inl (k.1, 2, .inl w_en)), (g8, .inl (k.1, 2, .inl w_tt)), (g9, .inl (k.1, 2, .inl w_ve)), (gA, .inl (k.1, 2, .inl w_ba)), (gB, .inl (k.1, 2, .inl w_ca))] := hD
    have hl : lv_has ls 2 [(0, .ref g0), (1, .int p0)] := hl
    refine W.eq (g2 := F0 m 10 ls [.int x1, .ref g0]) rfl ?_
    refine va_put (D := D) (ci := 8) (v := .int x1) (ty := .int) (C := R_mo) (T := T_mo) (N := 22) hx hb hts iu_mo t_mo tk_mo nm_mo hown hK hP hD hS 0 rfl rfl 0 (by decide) (hts _ m_606) (fun _ h9 => h9) rfl (by decide +kernel) rfl rfl (Nat.le_of_ble_eq_true rfl) d_mo_ticks_10 (fun H locs hP hD hS => ?_)
    have hP : va_P D cls [(g0, .inr (8, [.int x1, .int w_pv, .int w_pc, .ref g1, .ref g2, .ref g3, .ref g4, .ref g5, .ref g6, .ref g7, .ref g8, .long w_ti, .long w_co, .int w_so, .int w_st, .int w_ge, .int w_gi, .int w_wn, .int w_wr, .ref g9, .ref gA, .ref gB])), (g1, .inl (k.2.1, 16, .inl w_ed)), (g2, .inl (k.2.1, 16, .inl w_li)), (g3, .inl (k.1, 16, .inl w_pr)), (g4, .inl (k.2.1, 16, .inl w_pn)), (g5, .inl (k.1, 16, .inl w_se)), (g6, .inl (k.1, 16, .inl w_wa)), (g7, .inl (k.1, 2, .inl w_en)), (g8, .inl (k.1, 2, .inl w_tt)), (g9, .inl (k.1, 2, .inl w_ve)), (gA, .inl (k.1, 2, .inl w_ba)), (gB, .inl (k.1, 2, .inl w_ca))] H := hP
    have hD : va_D A [(g0, .inr (8, [.int x1, .int w_pv, .int w_pc, .ref g1, .ref g2, .ref g3, .ref g4, .ref g5, .ref g6, .ref g7, .ref g8, .long w_ti, .long w_co, .int w_so, .int w_st, .int w_ge, .int w_gi, .int w_wn, .int w_wr, .ref g9, .ref gA, .ref gB])), (g1, .inl (k.2.1, 16, .inl w_ed)), (g2, .inl (k.2.1, 16, .inl w_li)), (g3, .inl (k.1, 16, .inl w_pr)), (g4, .inl (k.2.1, 16, .inl w_pn)), (g5, .inl (k.1, 16, .inl w_se)), (g6, .inl (k.1, 16, .inl w_wa)), (g7, .inl (k.1, 2, .inl w_en)), (g8, .inl (k.1, 2, .inl w_tt)), (g9, .inl (k.1, 2, .inl w_ve)), (gA, .inl (k.1, 2, .inl w_ba)), (gB, .inl (k.1, 2, .inl w_ca))] := hD
    refine lv_iload_n hx hb d_mo_ticks_13 rfl (lv_at hl 1 rfl) ?_
    refine lv_if_lt (tgt := 28) hx hb d_mo_ticks_14 (by decide) (fun c1 => ?_) (fun c1 => ?_)
    · have hE : f_mo_ticks w_ti p0 = (x1, w_ti) := by
        rw [hF]; unfold f_mo_ticks_10; rw [if_pos c1]
      rw [hE]
      exact rt_v hx hb hr hlocks hP hD hK hS [0, 1, 2, 3, 4, 5, 6, 7, 8, 9, 10, 11] rfl (by decide) rfl d_mo_ticks_28
    · refine lv_aload_n hx hb d_mo_ticks_17 rfl (lv_at hl 0 rfl) ?_
      refine lv_aload_n hx hb d_mo_ticks_18 rfl (lv_at hl 0 rfl) ?_
      refine va_get (D := D) (ci := 8) (v := .long w_ti) (C := R_mo) (T := T_mo) (N := 22) hx hb hts iu_mo hown hK hP 0 rfl rfl 11 (by decide) (hts _ m_617) (fun _ h9 => h9) rfl d_mo_ticks_19 ?_
      refine lv_iload_n hx hb d_mo_ticks_22 rfl (lv_at hl 1 rfl) ?_
      refine lv_i2l hx hb d_mo_ticks_23 rfl ?_
      refine lv_ladd hx hb d_mo_ticks_24 ?_
      refine va_put (D := D) (ci := 8) (v := .long (w_ti + ((p0 : Int32).toInt64))) (ty := .long) (C := R_mo) (T := T_mo) (N := 22) hx hb hts iu_mo t_mo tk_mo nm_mo hown hK hP hD hS 0 rfl rfl 11 (by decide) (hts _ m_617) (fun _ h9 => h9) rfl (by decide +kernel) rfl rfl (Nat.le_of_ble_eq_true rfl) d_mo_ticks_25 (fun H locs hP hD hS => ?_)
      have hP : va_P D cls [(g0, .inr (8, [.int x1, .int w_pv, .int w_pc, .ref g1, .ref g2, .ref g3, .ref g4, .ref g5, .ref g6, .ref g7, .ref g8, .long (w_ti + ((p0 : Int32).toInt64)), .long w_co, .int w_so, .int w_st, .int w_ge, .int w_gi, .int w_wn, .int w_wr, .ref g9, .ref gA, .ref gB])), (g1, .inl (k.2.1, 16, .inl w_ed)), (g2, .inl (k.2.1, 16, .inl w_li)), (g3, .inl (k.1, 16, .inl w_pr)), (g4, .inl (k.2.1, 16, .inl w_pn)), (g5, .inl (k.1, 16, .inl w_se)), (g6, .inl (k.1, 16, .inl w_wa)), (g7, .inl (k.1, 2, .inl w_en)), (g8, .inl (k.1, 2, .inl w_tt)), (g9, .inl (k.1, 2, .inl w_ve)), (gA, .inl (k.1, 2, .inl w_ba)), (gB, .inl (k.1, 2, .inl w_ca))] H := hP
      have hD : va_D A [(g0, .inr (8, [.int x1, .int w_pv, .int w_pc, .ref g1, .ref g2, .ref g3, .ref g4, .ref g5, .ref g6, .ref g7, .ref g8, .long (w_ti + ((p0 : Int32).toInt64)), .long w_co, .int w_so, .int w_st, .int w_ge, .int w_gi, .int w_wn, .int w_wr, .ref g9, .ref gA, .ref gB])), (g1, .inl (k.2.1, 16, .inl w_ed)), (g2, .inl (k.2.1, 16, .inl w_li)), (g3, .inl (k.1, 16, .inl w_pr)), (g4, .inl (k.2.1, 16, .inl w_pn)), (g5, .inl (k.1, 16, .inl w_se)), (g6, .inl (k.1, 16, .inl w_wa)), (g7, .inl (k.1, 2, .inl w_en)), (g8, .inl (k.1, 2, .inl w_tt)), (g9, .inl (k.1, 2, .inl w_ve)), (gA, .inl (k.1, 2, .inl w_ba)), (gB, .inl (k.1, 2, .inl w_ca))] := hD
      have hE : f_mo_ticks w_ti p0 = (x1, w_ti + ((p0 : Int32).toInt64)) := by
        rw [hF]; unfold f_mo_ticks_10; rw [if_neg c1]
      rw [hE]
      exact rt_v hx hb hr hlocks hP hD hK hS [0, 1, 2, 3, 4, 5, 6, 7, 8, 9, 10, 11] rfl (by decide) rfl d_mo_ticks_28
def f_mo_wordAt_66 (p0 : Int32) (x1 : Int32) : Int32 := (if x1 < 0 then (0 : Int32) else (if (8 : Int32) < x1 then (0 : Int32) else ((3 : Int32) + (x1 / (4 : Int32)))))
def f_mo_wordAt (p0 : Int32) : Int32 := (if p0 < (4 : Int32) then (if p0 = (64 : Int32) then (2 : Int32) else (if p0 < (192 : Int32) then (if p0 < (144 : Int32) then (f_mo_wordAt_66 p0 (p0 - (128 : Int32))) else (f_mo_wordAt_66 p0 (p0 - (144 : Int32)))) else (if (208 : Int32) < p0 then (if p0 < (144 : Int32) then (f_mo_wordAt_66 p0 (p0 - (128 : Int32))) else (f_mo_wordAt_66 p0 (p0 - (144 : Int32)))) else ((6 : Int32) + ((p0 - (192 : Int32)) / (4 : Int32)))))) else (if (60 : Int32) < p0 then (if p0 = (64 : Int32) then (2 : Int32) else (if p0 < (192 : Int32) then (if p0 < (144 : Int32) then (f_mo_wordAt_66 p0 (p0 - (128 : Int32))) else (f_mo_wordAt_66 p0 (p0 - (144 : Int32)))) else (if (208 : Int32) < p0 then (if p0 < (144 : Int32) then (f_mo_wordAt_66 p0 (p0 - (128 : Int32))) else (f_mo_wordAt_66 p0 (p0 - (144 : Int32)))) else ((6 : Int32) + ((p0 - (192 : Int32)) / (4 : Int32)))))) else (1 : Int32)))
set_option maxHeartbeats 4000000 in
set_option maxRecDepth 100000 in
theorem c_mo_wordAt (l : Launch) (D : va_G) (k : k3) (sz : Nat) (p0 : Int32) : Met l y_mo_wordAt (Cond.code y_mo_wordAt b_mo_wordAt 2 (some .int) :: uW) ({ frames := 0, cells := 0, slots := 0, locals := 0 }) (va_Pc [.int p0] (pr_ D k sz [])) (va_Qi (fun (r : Int32) (_ : Unit) => r = f_mo_wordAt p0) (fun _ t => po_ D k (va_A [] sz) [] t) (va_A [] sz)) 0 0 (va_A [] sz) := by
  refine en_ (by decide) ?_
  intro p e s m below meth c hsz hx hb hr hml hown hts hlocks hin hP hK hD hN hV
  subst hsz
  generalize hAe : va_A [] s.heap.size = A at hD hV ⊢
  have hA : ∀ q : Nat, s.heap.size ≤ q → A q := fun q h => by rw [← hAe]; exact Or.inr h
  have hS : va_S A s.heap s.heap [] := va_S.rf
  have hF : f_mo_wordAt p0 = f_mo_wordAt p0 := rfl
  have hl := lv_entry ([.int p0]) (n := 2) (Nat.le_of_ble_eq_true rfl)
  rw [lg_entry_eq]
  generalize (lg_sl ([.int p0]) ++ List.replicate (2 - (lg_sl ([.int p0])).length) Slot.unset).toArray = ls at hl ⊢
  have hl : lv_has ls 2 [(0, .int p0)] := hl
  obtain ⟨H, hH⟩ : ∃ z, z = s.heap := ⟨_, rfl⟩
  have hP : va_P D cls [] H := by rw [hH]; exact hP
  have hS : va_S A s.heap H [] := by rw [hH]; exact hS
  refine wH_ hH ?_
  refine lv_iload_n hx hb d_mo_wordAt_0 rfl (lv_at hl 0 rfl) ?_
  refine lv_iconst (v := (4 : Int32)) hx hb d_mo_wordAt_1 (by decide) ?_
  refine lv_icmp_lt (tgt := 13) hx hb d_mo_wordAt_2 (by decide) (fun c1 => ?_) (fun c1 => ?_)
  · refine lv_iload_n hx hb d_mo_wordAt_13 rfl (lv_at hl 0 rfl) ?_
    refine lv_bipush (v := (64 : Int32)) hx hb d_mo_wordAt_14 (by decide) ?_
    refine lv_icmp_ne (tgt := 21) hx hb d_mo_wordAt_16 (by decide) (fun c2 => ?_) (fun c2 => ?_)
    · refine lv_iload_n hx hb d_mo_wordAt_21 rfl (lv_at hl 0 rfl) ?_
      refine lv_sipush (v := (192 : Int32)) hx hb d_mo_wordAt_22 (by decide) ?_
      refine lv_icmp_lt (tgt := 46) hx hb d_mo_wordAt_25 (by decide) (fun c3 => ?_) (fun c3 => ?_)
      · refine lv_iload_n hx hb d_mo_wordAt_46 rfl (lv_at hl 0 rfl) ?_
        refine lv_sipush (v := (144 : Int32)) hx hb d_mo_wordAt_47 (by decide) ?_
        refine jn_ (X := Int32) (A := A) (D := D) (H0 := s.heap) (fun x1 : Int32 => []) (fun x1 : Int32 => [.int x1]) (fun x1 : Int32 => [(0, .int p0)]) (fun x1 : Int32 => f_mo_wordAt p0 = f_mo_wordAt_66 p0 x1) 66 2 (fun J => ?_) (fun x9 H locs ls hF hP hD hS hl => ?_)
        · refine lv_icmp_lt (tgt := 61) hx hb d_mo_wordAt_50 (by decide) (fun c4 => ?_) (fun c4 => ?_)
          · refine lv_iload_n hx hb d_mo_wordAt_61 rfl (lv_at hl 0 rfl) ?_
            refine lv_sipush (v := (128 : Int32)) hx hb d_mo_wordAt_62 (by decide) ?_
            refine lv_isub hx hb d_mo_wordAt_65 ?_
            exact J (p0 - (128 : Int32)) _ _ _ (by rw [hF]; unfold f_mo_wordAt; rw [if_pos c1, if_neg c2, if_pos c3, if_pos c4]) (hP.sub [] rfl) (hD.sub [] (by decide) rfl) hS (lv_sub hl [0] rfl)
          · refine lv_iload_n hx hb d_mo_wordAt_53 rfl (lv_at hl 0 rfl) ?_
            refine lv_sipush (v := (144 : Int32)) hx hb d_mo_wordAt_54 (by decide) ?_
            refine lv_isub hx hb d_mo_wordAt_57 ?_
            refine lv_goto (tgt := 66) hx hb d_mo_wordAt_58 (by decide) ?_
            exact J (p0 - (144 : Int32)) _ _ _ (by rw [hF]; unfold f_mo_wordAt; rw [if_pos c1, if_neg c2, if_pos c3, if_neg c4]) (hP.sub [] rfl) (hD.sub [] (by decide) rfl) hS (lv_sub hl [0] rfl)
        · obtain ⟨x1, rfl⟩ : ∃ z, z = x9 := ⟨_, rfl⟩
          have hF : f_mo_wordAt p0 = f_mo_wordAt_66 p0 x1 := hF
          have hP : va_P D cls [] H := hP
          have hD : va_D A [] := hD
          have hl : lv_has ls 2 [(0, .int p0)] := hl
          refine W.eq (g2 := F0 m 66 ls [.int x1]) rfl ?_
          refine lv_istore_n (lv' := [(1, .int x1), (0, .int p0)]) hx hb d_mo_wordAt_66 rfl hl (by decide) rfl (fun ls hl => ?_)
          refine lv_iload_n hx hb d_mo_wordAt_67 rfl (lv_at hl 0 rfl) ?_
          refine lv_if_lt (tgt := 85) hx hb d_mo_wordAt_68 (by decide) (fun c1 => ?_) (fun c1 => ?_)
          · refine lv_iconst (v := (0 : Int32)) hx hb d_mo_wordAt_85 (by decide) ?_
            have hE : f_mo_wordAt p0 = (0 : Int32) := by
              rw [hF]; unfold f_mo_wordAt_66; rw [if_pos c1]
            rw [hE]
            exact rt_i hx hb hr hlocks hP hD hK hS [] rfl (by decide) rfl rfl d_mo_wordAt_86
          · refine lv_iload_n hx hb d_mo_wordAt_71 rfl (lv_at hl 0 rfl) ?_
            refine lv_bipush (v := (8 : Int32)) hx hb d_mo_wordAt_72 (by decide) ?_
            refine lv_icmp_gt (tgt := 85) hx hb d_mo_wordAt_74 (by decide) (fun c2 => ?_) (fun c2 => ?_)
            · refine lv_iconst (v := (0 : Int32)) hx hb d_mo_wordAt_85 (by decide) ?_
              have hE : f_mo_wordAt p0 = (0 : Int32) := by
                rw [hF]; unfold f_mo_wordAt_66; rw [if_neg c1, if_pos c2]
              rw [hE]
              exact rt_i hx hb hr hlocks hP hD hK hS [] rfl (by decide) rfl rfl d_mo_wordAt_86
            · refine lv_iconst (v := (3 : Int32)) hx hb d_mo_wordAt_77 (by decide) ?_
              refine lv_iload_n hx hb d_mo_wordAt_78 rfl (lv_at hl 0 rfl) ?_
              refine lv_iconst (v := (4 : Int32)) hx hb d_mo_wordAt_79 (by decide) ?_
              refine lv_idiv hx hb d_mo_wordAt_80 (by decide) ?_
              refine lv_iadd hx hb d_mo_wordAt_81 ?_
              refine lv_goto (tgt := 86) hx hb d_mo_wordAt_82 (by decide) ?_
              have hE : f_mo_wordAt p0 = ((3 : Int32) + (x1 / (4 : Int32))) := by
                rw [hF]; unfold f_mo_wordAt_66; rw [if_neg c1, if_neg c2]
              rw [hE]
              exact rt_i hx hb hr hlocks hP hD hK hS [] rfl (by decide) rfl rfl d_mo_wordAt_86
      · refine lv_iload_n hx hb d_mo_wordAt_28 rfl (lv_at hl 0 rfl) ?_
        refine lv_sipush (v := (208 : Int32)) hx hb d_mo_wordAt_29 (by decide) ?_
        refine lv_icmp_gt (tgt := 46) hx hb d_mo_wordAt_32 (by decide) (fun c4 => ?_) (fun c4 => ?_)
        · refine lv_iload_n hx hb d_mo_wordAt_46 rfl (lv_at hl 0 rfl) ?_
          refine lv_sipush (v := (144 : Int32)) hx hb d_mo_wordAt_47 (by decide) ?_
          refine jn_ (X := Int32) (A := A) (D := D) (H0 := s.heap) (fun x2 : Int32 => []) (fun x2 : Int32 => [.int x2]) (fun x2 : Int32 => [(0, .int p0)]) (fun x2 : Int32 => f_mo_wordAt p0 = f_mo_wordAt_66 p0 x2) 66 2 (fun J => ?_) (fun x9 H locs ls hF hP hD hS hl => ?_)
          · refine lv_icmp_lt (tgt := 61) hx hb d_mo_wordAt_50 (by decide) (fun c5 => ?_) (fun c5 => ?_)
            · refine lv_iload_n hx hb d_mo_wordAt_61 rfl (lv_at hl 0 rfl) ?_
              refine lv_sipush (v := (128 : Int32)) hx hb d_mo_wordAt_62 (by decide) ?_
              refine lv_isub hx hb d_mo_wordAt_65 ?_
              exact J (p0 - (128 : Int32)) _ _ _ (by rw [hF]; unfold f_mo_wordAt; rw [if_pos c1, if_neg c2, if_neg c3, if_pos c4, if_pos c5]) (hP.sub [] rfl) (hD.sub [] (by decide) rfl) hS (lv_sub hl [0] rfl)
            · refine lv_iload_n hx hb d_mo_wordAt_53 rfl (lv_at hl 0 rfl) ?_
              refine lv_sipush (v := (144 : Int32)) hx hb d_mo_wordAt_54 (by decide) ?_
              refine lv_isub hx hb d_mo_wordAt_57 ?_
              refine lv_goto (tgt := 66) hx hb d_mo_wordAt_58 (by decide) ?_
              exact J (p0 - (144 : Int32)) _ _ _ (by rw [hF]; unfold f_mo_wordAt; rw [if_pos c1, if_neg c2, if_neg c3, if_pos c4, if_neg c5]) (hP.sub [] rfl) (hD.sub [] (by decide) rfl) hS (lv_sub hl [0] rfl)
          · obtain ⟨x2, rfl⟩ : ∃ z, z = x9 := ⟨_, rfl⟩
            have hF : f_mo_wordAt p0 = f_mo_wordAt_66 p0 x2 := hF
            have hP : va_P D cls [] H := hP
            have hD : va_D A [] := hD
            have hl : lv_has ls 2 [(0, .int p0)] := hl
            refine W.eq (g2 := F0 m 66 ls [.int x2]) rfl ?_
            refine lv_istore_n (lv' := [(1, .int x2), (0, .int p0)]) hx hb d_mo_wordAt_66 rfl hl (by decide) rfl (fun ls hl => ?_)
            refine lv_iload_n hx hb d_mo_wordAt_67 rfl (lv_at hl 0 rfl) ?_
            refine lv_if_lt (tgt := 85) hx hb d_mo_wordAt_68 (by decide) (fun c1 => ?_) (fun c1 => ?_)
            · refine lv_iconst (v := (0 : Int32)) hx hb d_mo_wordAt_85 (by decide) ?_
              have hE : f_mo_wordAt p0 = (0 : Int32) := by
                rw [hF]; unfold f_mo_wordAt_66; rw [if_pos c1]
              rw [hE]
              exact rt_i hx hb hr hlocks hP hD hK hS [] rfl (by decide) rfl rfl d_mo_wordAt_86
            · refine lv_iload_n hx hb d_mo_wordAt_71 rfl (lv_at hl 0 rfl) ?_
              refine lv_bipush (v := (8 : Int32)) hx hb d_mo_wordAt_72 (by decide) ?_
              refine lv_icmp_gt (tgt := 85) hx hb d_mo_wordAt_74 (by decide) (fun c2 => ?_) (fun c2 => ?_)
              · refine lv_iconst (v := (0 : Int32)) hx hb d_mo_wordAt_85 (by decide) ?_
                have hE : f_mo_wordAt p0 = (0 : Int32) := by
                  rw [hF]; unfold f_mo_wordAt_66; rw [if_neg c1, if_pos c2]
                rw [hE]
                exact rt_i hx hb hr hlocks hP hD hK hS [] rfl (by decide) rfl rfl d_mo_wordAt_86
              · refine lv_iconst (v := (3 : Int32)) hx hb d_mo_wordAt_77 (by decide) ?_
                refine lv_iload_n hx hb d_mo_wordAt_78 rfl (lv_at hl 0 rfl) ?_
                refine lv_iconst (v := (4 : Int32)) hx hb d_mo_wordAt_79 (by decide) ?_
                refine lv_idiv hx hb d_mo_wordAt_80 (by decide) ?_
                refine lv_iadd hx hb d_mo_wordAt_81 ?_
                refine lv_goto (tgt := 86) hx hb d_mo_wordAt_82 (by decide) ?_
                have hE : f_mo_wordAt p0 = ((3 : Int32) + (x2 / (4 : Int32))) := by
                  rw [hF]; unfold f_mo_wordAt_66; rw [if_neg c1, if_neg c2]
                rw [hE]
                exact rt_i hx hb hr hlocks hP hD hK hS [] rfl (by decide) rfl rfl d_mo_wordAt_86
        · refine lv_bipush (v := (6 : Int32)) hx hb d_mo_wordAt_35 (by decide) ?_
          refine lv_iload_n hx hb d_mo_wordAt_37 rfl (lv_at hl 0 rfl) ?_
          refine lv_sipush (v := (192 : Int32)) hx hb d_mo_wordAt_38 (by decide) ?_
          refine lv_isub hx hb d_mo_wordAt_41 ?_
          refine lv_iconst (v := (4 : Int32)) hx hb d_mo_wordAt_42 (by decide) ?_
          refine lv_idiv hx hb d_mo_wordAt_43 (by decide) ?_
          refine lv_iadd hx hb d_mo_wordAt_44 ?_
          have hE : f_mo_wordAt p0 = ((6 : Int32) + ((p0 - (192 : Int32)) / (4 : Int32))) := by
            rw [hF]; unfold f_mo_wordAt; rw [if_pos c1, if_neg c2, if_neg c3, if_neg c4]
          rw [hE]
          exact rt_i hx hb hr hlocks hP hD hK hS [] rfl (by decide) rfl rfl d_mo_wordAt_45
    · refine lv_iconst (v := (2 : Int32)) hx hb d_mo_wordAt_19 (by decide) ?_
      have hE : f_mo_wordAt p0 = (2 : Int32) := by
        rw [hF]; unfold f_mo_wordAt; rw [if_pos c1, if_pos c2]
      rw [hE]
      exact rt_i hx hb hr hlocks hP hD hK hS [] rfl (by decide) rfl rfl d_mo_wordAt_20
  · refine lv_iload_n hx hb d_mo_wordAt_5 rfl (lv_at hl 0 rfl) ?_
    refine lv_bipush (v := (60 : Int32)) hx hb d_mo_wordAt_6 (by decide) ?_
    refine lv_icmp_gt (tgt := 13) hx hb d_mo_wordAt_8 (by decide) (fun c2 => ?_) (fun c2 => ?_)
    · refine lv_iload_n hx hb d_mo_wordAt_13 rfl (lv_at hl 0 rfl) ?_
      refine lv_bipush (v := (64 : Int32)) hx hb d_mo_wordAt_14 (by decide) ?_
      refine lv_icmp_ne (tgt := 21) hx hb d_mo_wordAt_16 (by decide) (fun c3 => ?_) (fun c3 => ?_)
      · refine lv_iload_n hx hb d_mo_wordAt_21 rfl (lv_at hl 0 rfl) ?_
        refine lv_sipush (v := (192 : Int32)) hx hb d_mo_wordAt_22 (by decide) ?_
        refine lv_icmp_lt (tgt := 46) hx hb d_mo_wordAt_25 (by decide) (fun c4 => ?_) (fun c4 => ?_)
        · refine lv_iload_n hx hb d_mo_wordAt_46 rfl (lv_at hl 0 rfl) ?_
          refine lv_sipush (v := (144 : Int32)) hx hb d_mo_wordAt_47 (by decide) ?_
          refine jn_ (X := Int32) (A := A) (D := D) (H0 := s.heap) (fun x3 : Int32 => []) (fun x3 : Int32 => [.int x3]) (fun x3 : Int32 => [(0, .int p0)]) (fun x3 : Int32 => f_mo_wordAt p0 = f_mo_wordAt_66 p0 x3) 66 2 (fun J => ?_) (fun x9 H locs ls hF hP hD hS hl => ?_)
          · refine lv_icmp_lt (tgt := 61) hx hb d_mo_wordAt_50 (by decide) (fun c5 => ?_) (fun c5 => ?_)
            · refine lv_iload_n hx hb d_mo_wordAt_61 rfl (lv_at hl 0 rfl) ?_
              refine lv_sipush (v := (128 : Int32)) hx hb d_mo_wordAt_62 (by decide) ?_
              refine lv_isub hx hb d_mo_wordAt_65 ?_
              exact J (p0 - (128 : Int32)) _ _ _ (by rw [hF]; unfold f_mo_wordAt; rw [if_neg c1, if_pos c2, if_neg c3, if_pos c4, if_pos c5]) (hP.sub [] rfl) (hD.sub [] (by decide) rfl) hS (lv_sub hl [0] rfl)
            · refine lv_iload_n hx hb d_mo_wordAt_53 rfl (lv_at hl 0 rfl) ?_
              refine lv_sipush (v := (144 : Int32)) hx hb d_mo_wordAt_54 (by decide) ?_
              refine lv_isub hx hb d_mo_wordAt_57 ?_
              refine lv_goto (tgt := 66) hx hb d_mo_wordAt_58 (by decide) ?_
              exact J (p0 - (144 : Int32)) _ _ _ (by rw [hF]; unfold f_mo_wordAt; rw [if_neg c1, if_pos c2, if_neg c3, if_pos c4, if_neg c5]) (hP.sub [] rfl) (hD.sub [] (by decide) rfl) hS (lv_sub hl [0] rfl)
          · obtain ⟨x3, rfl⟩ : ∃ z, z = x9 := ⟨_, rfl⟩
            have hF : f_mo_wordAt p0 = f_mo_wordAt_66 p0 x3 := hF
            have hP : va_P D cls [] H := hP
            have hD : va_D A [] := hD
            have hl : lv_has ls 2 [(0, .int p0)] := hl
            refine W.eq (g2 := F0 m 66 ls [.int x3]) rfl ?_
            refine lv_istore_n (lv' := [(1, .int x3), (0, .int p0)]) hx hb d_mo_wordAt_66 rfl hl (by decide) rfl (fun ls hl => ?_)
            refine lv_iload_n hx hb d_mo_wordAt_67 rfl (lv_at hl 0 rfl) ?_
            refine lv_if_lt (tgt := 85) hx hb d_mo_wordAt_68 (by decide) (fun c1 => ?_) (fun c1 => ?_)
            · refine lv_iconst (v := (0 : Int32)) hx hb d_mo_wordAt_85 (by decide) ?_
              have hE : f_mo_wordAt p0 = (0 : Int32) := by
                rw [hF]; unfold f_mo_wordAt_66; rw [if_pos c1]
              rw [hE]
              exact rt_i hx hb hr hlocks hP hD hK hS [] rfl (by decide) rfl rfl d_mo_wordAt_86
            · refine lv_iload_n hx hb d_mo_wordAt_71 rfl (lv_at hl 0 rfl) ?_
              refine lv_bipush (v := (8 : Int32)) hx hb d_mo_wordAt_72 (by decide) ?_
              refine lv_icmp_gt (tgt := 85) hx hb d_mo_wordAt_74 (by decide) (fun c2 => ?_) (fun c2 => ?_)
              · refine lv_iconst (v := (0 : Int32)) hx hb d_mo_wordAt_85 (by decide) ?_
                have hE : f_mo_wordAt p0 = (0 : Int32) := by
                  rw [hF]; unfold f_mo_wordAt_66; rw [if_neg c1, if_pos c2]
                rw [hE]
                exact rt_i hx hb hr hlocks hP hD hK hS [] rfl (by decide) rfl rfl d_mo_wordAt_86
              · refine lv_iconst (v := (3 : Int32)) hx hb d_mo_wordAt_77 (by decide) ?_
                refine lv_iload_n hx hb d_mo_wordAt_78 rfl (lv_at hl 0 rfl) ?_
                refine lv_iconst (v := (4 : Int32)) hx hb d_mo_wordAt_79 (by decide) ?_
                refine lv_idiv hx hb d_mo_wordAt_80 (by decide) ?_
                refine lv_iadd hx hb d_mo_wordAt_81 ?_
                refine lv_goto (tgt := 86) hx hb d_mo_wordAt_82 (by decide) ?_
                have hE : f_mo_wordAt p0 = ((3 : Int32) + (x3 / (4 : Int32))) := by
                  rw [hF]; unfold f_mo_wordAt_66; rw [if_neg c1, if_neg c2]
                rw [hE]
                exact rt_i hx hb hr hlocks hP hD hK hS [] rfl (by decide) rfl rfl d_mo_wordAt_86
        · refine lv_iload_n hx hb d_mo_wordAt_28 rfl (lv_at hl 0 rfl) ?_
          refine lv_sipush (v := (208 : Int32)) hx hb d_mo_wordAt_29 (by decide) ?_
          refine lv_icmp_gt (tgt := 46) hx hb d_mo_wordAt_32 (by decide) (fun c5 => ?_) (fun c5 => ?_)
          · refine lv_iload_n hx hb d_mo_wordAt_46 rfl (lv_at hl 0 rfl) ?_
            refine lv_sipush (v := (144 : Int32)) hx hb d_mo_wordAt_47 (by decide) ?_
            refine jn_ (X := Int32) (A := A) (D := D) (H0 := s.heap) (fun x4 : Int32 => []) (fun x4 : Int32 => [.int x4]) (fun x4 : Int32 => [(0, .int p0)]) (fun x4 : Int32 => f_mo_wordAt p0 = f_mo_wordAt_66 p0 x4) 66 2 (fun J => ?_) (fun x9 H locs ls hF hP hD hS hl => ?_)
            · refine lv_icmp_lt (tgt := 61) hx hb d_mo_wordAt_50 (by decide) (fun c6 => ?_) (fun c6 => ?_)
              · refine lv_iload_n hx hb d_mo_wordAt_61 rfl (lv_at hl 0 rfl) ?_
                refine lv_sipush (v := (128 : Int32)) hx hb d_mo_wordAt_62 (by decide) ?_
                refine lv_isub hx hb d_mo_wordAt_65 ?_
                exact J (p0 - (128 : Int32)) _ _ _ (by rw [hF]; unfold f_mo_wordAt; rw [if_neg c1, if_pos c2, if_neg c3, if_neg c4, if_pos c5, if_pos c6]) (hP.sub [] rfl) (hD.sub [] (by decide) rfl) hS (lv_sub hl [0] rfl)
              · refine lv_iload_n hx hb d_mo_wordAt_53 rfl (lv_at hl 0 rfl) ?_
                refine lv_sipush (v := (144 : Int32)) hx hb d_mo_wordAt_54 (by decide) ?_
                refine lv_isub hx hb d_mo_wordAt_57 ?_
                refine lv_goto (tgt := 66) hx hb d_mo_wordAt_58 (by decide) ?_
                exact J (p0 - (144 : Int32)) _ _ _ (by rw [hF]; unfold f_mo_wordAt; rw [if_neg c1, if_pos c2, if_neg c3, if_neg c4, if_pos c5, if_neg c6]) (hP.sub [] rfl) (hD.sub [] (by decide) rfl) hS (lv_sub hl [0] rfl)
            · obtain ⟨x4, rfl⟩ : ∃ z, z = x9 := ⟨_, rfl⟩
              have hF : f_mo_wordAt p0 = f_mo_wordAt_66 p0 x4 := hF
              have hP : va_P D cls [] H := hP
              have hD : va_D A [] := hD
              have hl : lv_has ls 2 [(0, .int p0)] := hl
              refine W.eq (g2 := F0 m 66 ls [.int x4]) rfl ?_
              refine lv_istore_n (lv' := [(1, .int x4), (0, .int p0)]) hx hb d_mo_wordAt_66 rfl hl (by decide) rfl (fun ls hl => ?_)
              refine lv_iload_n hx hb d_mo_wordAt_67 rfl (lv_at hl 0 rfl) ?_
              refine lv_if_lt (tgt := 85) hx hb d_mo_wordAt_68 (by decide) (fun c1 => ?_) (fun c1 => ?_)
              · refine lv_iconst (v := (0 : Int32)) hx hb d_mo_wordAt_85 (by decide) ?_
                have hE : f_mo_wordAt p0 = (0 : Int32) := by
                  rw [hF]; unfold f_mo_wordAt_66; rw [if_pos c1]
                rw [hE]
                exact rt_i hx hb hr hlocks hP hD hK hS [] rfl (by decide) rfl rfl d_mo_wordAt_86
              · refine lv_iload_n hx hb d_mo_wordAt_71 rfl (lv_at hl 0 rfl) ?_
                refine lv_bipush (v := (8 : Int32)) hx hb d_mo_wordAt_72 (by decide) ?_
                refine lv_icmp_gt (tgt := 85) hx hb d_mo_wordAt_74 (by decide) (fun c2 => ?_) (fun c2 => ?_)
                · refine lv_iconst (v := (0 : Int32)) hx hb d_mo_wordAt_85 (by decide) ?_
                  have hE : f_mo_wordAt p0 = (0 : Int32) := by
                    rw [hF]; unfold f_mo_wordAt_66; rw [if_neg c1, if_pos c2]
                  rw [hE]
                  exact rt_i hx hb hr hlocks hP hD hK hS [] rfl (by decide) rfl rfl d_mo_wordAt_86
                · refine lv_iconst (v := (3 : Int32)) hx hb d_mo_wordAt_77 (by decide) ?_
                  refine lv_iload_n hx hb d_mo_wordAt_78 rfl (lv_at hl 0 rfl) ?_
                  refine lv_iconst (v := (4 : Int32)) hx hb d_mo_wordAt_79 (by decide) ?_
                  refine lv_idiv hx hb d_mo_wordAt_80 (by decide) ?_
                  refine lv_iadd hx hb d_mo_wordAt_81 ?_
                  refine lv_goto (tgt := 86) hx hb d_mo_wordAt_82 (by decide) ?_
                  have hE : f_mo_wordAt p0 = ((3 : Int32) + (x4 / (4 : Int32))) := by
                    rw [hF]; unfold f_mo_wordAt_66; rw [if_neg c1, if_neg c2]
                  rw [hE]
                  exact rt_i hx hb hr hlocks hP hD hK hS [] rfl (by decide) rfl rfl d_mo_wordAt_86
          · refine lv_bipush (v := (6 : Int32)) hx hb d_mo_wordAt_35 (by decide) ?_
            refine lv_iload_n hx hb d_mo_wordAt_37 rfl (lv_at hl 0 rfl) ?_
            refine lv_sipush (v := (192 : Int32)) hx hb d_mo_wordAt_38 (by decide) ?_
            refine lv_isub hx hb d_mo_wordAt_41 ?_
            refine lv_iconst (v := (4 : Int32)) hx hb d_mo_wordAt_42 (by decide) ?_
            refine lv_idiv hx hb d_mo_wordAt_43 (by decide) ?_
            refine lv_iadd hx hb d_mo_wordAt_44 ?_
            have hE : f_mo_wordAt p0 = ((6 : Int32) + ((p0 - (192 : Int32)) / (4 : Int32))) := by
              rw [hF]; unfold f_mo_wordAt; rw [if_neg c1, if_pos c2, if_neg c3, if_neg c4, if_neg c5]
            rw [hE]
            exact rt_i hx hb hr hlocks hP hD hK hS [] rfl (by decide) rfl rfl d_mo_wordAt_45
      · refine lv_iconst (v := (2 : Int32)) hx hb d_mo_wordAt_19 (by decide) ?_
        have hE : f_mo_wordAt p0 = (2 : Int32) := by
          rw [hF]; unfold f_mo_wordAt; rw [if_neg c1, if_pos c2, if_pos c3]
        rw [hE]
        exact rt_i hx hb hr hlocks hP hD hK hS [] rfl (by decide) rfl rfl d_mo_wordAt_20
    · refine lv_iconst (v := (1 : Int32)) hx hb d_mo_wordAt_11 (by decide) ?_
      have hE : f_mo_wordAt p0 = (1 : Int32) := by
        rw [hF]; unfold f_mo_wordAt; rw [if_neg c1, if_neg c2]
      rw [hE]
      exact rt_i hx hb hr hlocks hP hD hK hS [] rfl (by decide) rfl rfl d_mo_wordAt_12
def f_mo_contextAt (p0 : Int32) : Int32 := (if p0 < (144 : Int32) then (0 : Int32) else (1 : Int32))
set_option maxHeartbeats 4000000 in
set_option maxRecDepth 100000 in
theorem c_mo_contextAt (l : Launch) (D : va_G) (k : k3) (sz : Nat) (p0 : Int32) : Met l y_mo_contextAt (Cond.code y_mo_contextAt b_mo_contextAt 1 (some .int) :: uW) ({ frames := 0, cells := 0, slots := 0, locals := 0 }) (va_Pc [.int p0] (pr_ D k sz [])) (va_Qi (fun (r : Int32) (_ : Unit) => r = f_mo_contextAt p0) (fun _ t => po_ D k (va_A [] sz) [] t) (va_A [] sz)) 0 0 (va_A [] sz) := by
  refine en_ (by decide) ?_
  intro p e s m below meth c hsz hx hb hr hml hown hts hlocks hin hP hK hD hN hV
  subst hsz
  generalize hAe : va_A [] s.heap.size = A at hD hV ⊢
  have hA : ∀ q : Nat, s.heap.size ≤ q → A q := fun q h => by rw [← hAe]; exact Or.inr h
  have hS : va_S A s.heap s.heap [] := va_S.rf
  have hF : f_mo_contextAt p0 = f_mo_contextAt p0 := rfl
  have hl := lv_entry ([.int p0]) (n := 1) (Nat.le_of_ble_eq_true rfl)
  rw [lg_entry_eq]
  generalize (lg_sl ([.int p0]) ++ List.replicate (1 - (lg_sl ([.int p0])).length) Slot.unset).toArray = ls at hl ⊢
  have hl : lv_has ls 1 [(0, .int p0)] := hl
  obtain ⟨H, hH⟩ : ∃ z, z = s.heap := ⟨_, rfl⟩
  have hP : va_P D cls [] H := by rw [hH]; exact hP
  have hS : va_S A s.heap H [] := by rw [hH]; exact hS
  refine wH_ hH ?_
  refine lv_iload_n hx hb d_mo_contextAt_0 rfl (lv_at hl 0 rfl) ?_
  refine lv_sipush (v := (144 : Int32)) hx hb d_mo_contextAt_1 (by decide) ?_
  refine lv_icmp_lt (tgt := 11) hx hb d_mo_contextAt_4 (by decide) (fun c1 => ?_) (fun c1 => ?_)
  · refine lv_iconst (v := (0 : Int32)) hx hb d_mo_contextAt_11 (by decide) ?_
    have hE : f_mo_contextAt p0 = (0 : Int32) := by
      rw [hF]; unfold f_mo_contextAt; rw [if_pos c1]
    rw [hE]
    exact rt_i hx hb hr hlocks hP hD hK hS [] rfl (by decide) rfl rfl d_mo_contextAt_12
  · refine lv_iconst (v := (1 : Int32)) hx hb d_mo_contextAt_7 (by decide) ?_
    refine lv_goto (tgt := 12) hx hb d_mo_contextAt_8 (by decide) ?_
    have hE : f_mo_contextAt p0 = (1 : Int32) := by
      rw [hF]; unfold f_mo_contextAt; rw [if_neg c1]
    rw [hE]
    exact rt_i hx hb hr hlocks hP hD hK hS [] rfl (by decide) rfl rfl d_mo_contextAt_12
def f_mo_bar (p0 : Int32) (p1 : Int32) : Int32 := (if (p0 - p0 / (4 : Int32) * (4 : Int32)) = 0 then (if (f_mo_wordAt p0) = 0 then (2 : Int32) else (if p1 = 0 then (0 : Int32) else (if (f_mo_wordAt p0) = (2 : Int32) then (3 : Int32) else (0 : Int32)))) else (1 : Int32))
set_option maxHeartbeats 4000000 in
set_option maxRecDepth 100000 in
theorem c_mo_bar (l : Launch) (D : va_G) (k : k3) (sz : Nat) (p0 : Int32) (p1 : Int32) : Met l y_mo_bar (Cond.code y_mo_bar b_mo_bar 3 (some .int) :: uW) ({ frames := 1, cells := 0, slots := 0, locals := 21 }) (va_Pc [.int p0, .int p1] (pr_ D k sz [])) (va_Qi (fun (r : Int32) (_ : Unit) => r = f_mo_bar p0 p1) (fun _ t => po_ D k (va_A [] sz) [] t) (va_A [] sz)) 0 0 (va_A [] sz) := by
  refine en_ (by decide) ?_
  intro p e s m below meth c hsz hx hb hr hml hown hts hlocks hin hP hK hD hN hV
  subst hsz
  generalize hAe : va_A [] s.heap.size = A at hD hV ⊢
  have hA : ∀ q : Nat, s.heap.size ≤ q → A q := fun q h => by rw [← hAe]; exact Or.inr h
  have hS : va_S A s.heap s.heap [] := va_S.rf
  have hF : f_mo_bar p0 p1 = f_mo_bar p0 p1 := rfl
  have hl := lv_entry ([.int p0, .int p1]) (n := 3) (Nat.le_of_ble_eq_true rfl)
  rw [lg_entry_eq]
  generalize (lg_sl ([.int p0, .int p1]) ++ List.replicate (3 - (lg_sl ([.int p0, .int p1])).length) Slot.unset).toArray = ls at hl ⊢
  have hl : lv_has ls 3 [(0, .int p0), (1, .int p1)] := hl
  obtain ⟨H, hH⟩ : ∃ z, z = s.heap := ⟨_, rfl⟩
  have hP : va_P D cls [] H := by rw [hH]; exact hP
  have hS : va_S A s.heap H [] := by rw [hH]; exact hS
  refine wH_ hH ?_
  refine lv_iload_n hx hb d_mo_bar_0 rfl (lv_at hl 0 rfl) ?_
  refine lv_iconst (v := (4 : Int32)) hx hb d_mo_bar_1 (by decide) ?_
  refine lv_irem hx hb d_mo_bar_2 (by decide) ?_
  refine lv_if_eq (tgt := 8) hx hb d_mo_bar_3 (by decide) (fun c1 => ?_) (fun c1 => ?_)
  · refine lv_iload_n hx hb d_mo_bar_8 rfl (lv_at hl 0 rfl) ?_
    refine fn_i (rn_S (own := "TrapHartModel") (index := 71) (n := 1) (As := [.int p0]) (rest := []) (isC := []) (ws := []) (wc := []) ⟨hx, hb, hml, hown, hts⟩ (c_mo_wordAt l D k H.size p0) (gd_S uW_id m_701 m_702 m_9 m_703) rfl rfl (by decide +kernel) ⟨Nat.le_of_ble_eq_true rfl, Nat.le_of_ble_eq_true rfl⟩ hP hK hD hN hV hS hA rfl (by decide) rfl rfl hl.1 rfl (lv_room (Nat.le_of_ble_eq_true rfl)) d_mo_bar_9 ⟨Nat.le_of_ble_eq_true rfl, Nat.le_of_ble_eq_true rfl⟩) hP hD hS hA [] [] (wr := []) rfl rfl (by decide) (by decide) (fun H locs hP hD hS => ?_)
    have hP : va_P D cls [] H := hP
    have hD : va_D A [] := hD
    refine lv_istore_n (lv' := [(2, .int (f_mo_wordAt p0)), (0, .int p0), (1, .int p1)]) hx hb d_mo_bar_12 rfl hl (by decide) rfl (fun ls hl => ?_)
    refine lv_iload_n hx hb d_mo_bar_13 rfl (lv_at hl 0 rfl) ?_
    refine lv_if_ne (tgt := 21) hx hb d_mo_bar_14 (by decide) (fun c2 => ?_) (fun c2 => ?_)
    · refine lv_iload_n hx hb d_mo_bar_21 rfl (lv_at hl 2 rfl) ?_
      refine lv_if_eq (tgt := 34) hx hb d_mo_bar_22 (by decide) (fun c3 => ?_) (fun c3 => ?_)
      · refine lv_iconst (v := (0 : Int32)) hx hb d_mo_bar_34 (by decide) ?_
        have hE : f_mo_bar p0 p1 = (0 : Int32) := by
          rw [hF]; unfold f_mo_bar; rw [if_pos c1, if_neg c2, if_pos c3]
        rw [hE]
        exact rt_i hx hb hr hlocks hP hD hK hS [] rfl (by decide) rfl rfl d_mo_bar_35
      · refine lv_iload_n hx hb d_mo_bar_25 rfl (lv_at hl 0 rfl) ?_
        refine lv_iconst (v := (2 : Int32)) hx hb d_mo_bar_26 (by decide) ?_
        refine lv_icmp_ne (tgt := 34) hx hb d_mo_bar_27 (by decide) (fun c4 => ?_) (fun c4 => ?_)
        · refine lv_iconst (v := (0 : Int32)) hx hb d_mo_bar_34 (by decide) ?_
          have hE : f_mo_bar p0 p1 = (0 : Int32) := by
            rw [hF]; unfold f_mo_bar; rw [if_pos c1, if_neg c2, if_neg c3, if_neg c4]
          rw [hE]
          exact rt_i hx hb hr hlocks hP hD hK hS [] rfl (by decide) rfl rfl d_mo_bar_35
        · refine lv_iconst (v := (3 : Int32)) hx hb d_mo_bar_30 (by decide) ?_
          refine lv_goto (tgt := 35) hx hb d_mo_bar_31 (by decide) ?_
          have hE : f_mo_bar p0 p1 = (3 : Int32) := by
            rw [hF]; unfold f_mo_bar; rw [if_pos c1, if_neg c2, if_neg c3, if_pos c4]
          rw [hE]
          exact rt_i hx hb hr hlocks hP hD hK hS [] rfl (by decide) rfl rfl d_mo_bar_35
    · refine lv_iconst (v := (2 : Int32)) hx hb d_mo_bar_17 (by decide) ?_
      refine lv_goto (tgt := 35) hx hb d_mo_bar_18 (by decide) ?_
      have hE : f_mo_bar p0 p1 = (2 : Int32) := by
        rw [hF]; unfold f_mo_bar; rw [if_pos c1, if_pos c2]
      rw [hE]
      exact rt_i hx hb hr hlocks hP hD hK hS [] rfl (by decide) rfl rfl d_mo_bar_35
  · refine lv_iconst (v := (1 : Int32)) hx hb d_mo_bar_6 (by decide) ?_
    have hE : f_mo_bar p0 p1 = (1 : Int32) := by
      rw [hF]; unfold f_mo_bar; rw [if_neg c1]
    rw [hE]
    exact rt_i hx hb hr hlocks hP hD hK hS [] rfl (by decide) rfl rfl d_mo_bar_7
def f_mo_half_33 (p0 : Int64) (p1 : Int32) (p2 : Int32) (x1 : Int64) (x2 : Int64) : Int64 := ((x2 <<< (((32 : Int32) : Int32).toInt64 &&& 63)) ||| x1)
def f_mo_half_18 (p0 : Int64) (p1 : Int32) (p2 : Int32) (x1 : Int64) : Int64 := (if p2 = 0 then (f_mo_half_33 p0 p1 p2 x1 (p0 >>> (((32 : Int32) : Int32).toInt64 &&& 63))) else (f_mo_half_33 p0 p1 p2 x1 ((p1 : Int32).toInt64)))
def f_mo_half (p0 : Int64) (p1 : Int32) (p2 : Int32) : Int64 := (if p2 = 0 then (f_mo_half_18 p0 p1 p2 (((p1 : Int32).toInt64) &&& (4294967295 : Int64))) else (f_mo_half_18 p0 p1 p2 (p0 &&& (4294967295 : Int64))))
set_option maxHeartbeats 4000000 in
set_option maxRecDepth 100000 in
theorem c_mo_half (l : Launch) (D : va_G) (k : k3) (sz : Nat) (p0 : Int64) (p1 : Int32) (p2 : Int32) : Met l y_mo_half (Cond.code y_mo_half b_mo_half 8 (some .long) :: uW) ({ frames := 0, cells := 0, slots := 0, locals := 0 }) (va_Pc [.long p0, .int p1, .int p2] (pr_ D k sz [])) (va_Ql (fun (r : Int64) (_ : Unit) => r = f_mo_half p0 p1 p2) (fun _ t => po_ D k (va_A [] sz) [] t) (va_A [] sz)) 0 0 (va_A [] sz) := by
  refine en_ (by decide) ?_
  intro p e s m below meth c hsz hx hb hr hml hown hts hlocks hin hP hK hD hN hV
  subst hsz
  generalize hAe : va_A [] s.heap.size = A at hD hV ⊢
  have hA : ∀ q : Nat, s.heap.size ≤ q → A q := fun q h => by rw [← hAe]; exact Or.inr h
  have hS : va_S A s.heap s.heap [] := va_S.rf
  have hF : f_mo_half p0 p1 p2 = f_mo_half p0 p1 p2 := rfl
  have hl := lv_entry ([.long p0, .int p1, .int p2]) (n := 8) (Nat.le_of_ble_eq_true rfl)
  rw [lg_entry_eq]
  generalize (lg_sl ([.long p0, .int p1, .int p2]) ++ List.replicate (8 - (lg_sl ([.long p0, .int p1, .int p2])).length) Slot.unset).toArray = ls at hl ⊢
  have hl : lv_has ls 8 [(0, .long p0), (2, .int p1), (3, .int p2)] := hl
  obtain ⟨H, hH⟩ : ∃ z, z = s.heap := ⟨_, rfl⟩
  have hP : va_P D cls [] H := by rw [hH]; exact hP
  have hS : va_S A s.heap H [] := by rw [hH]; exact hS
  refine wH_ hH ?_
  refine lv_iload_n hx hb d_mo_half_0 rfl (lv_at hl 2 rfl) ?_
  refine jn_ (X := Int64) (A := A) (D := D) (H0 := s.heap) (fun x1 : Int64 => []) (fun x1 : Int64 => [.long x1]) (fun x1 : Int64 => [(0, .long p0), (2, .int p1), (3, .int p2)]) (fun x1 : Int64 => f_mo_half p0 p1 p2 = f_mo_half_18 p0 p1 p2 x1) 18 8 (fun J => ?_) (fun x9 H locs ls hF hP hD hS hl => ?_)
  · refine lv_if_eq (tgt := 12) hx hb d_mo_half_1 (by decide) (fun c1 => ?_) (fun c1 => ?_)
    · refine lv_iload_n hx hb d_mo_half_12 rfl (lv_at hl 1 rfl) ?_
      refine lv_i2l hx hb d_mo_half_13 rfl ?_
      refine lv_ldc2 (v := (4294967295 : Int64)) hx hb hown (hts _ m_735) d_mo_half_14 ?_
      refine lv_land hx hb d_mo_half_17 ?_
      exact J (((p1 : Int32).toInt64) &&& (4294967295 : Int64)) _ _ _ (by rw [hF]; unfold f_mo_half; rw [if_pos c1]) (hP.sub [] rfl) (hD.sub [] (by decide) rfl) hS (lv_sub hl [0, 1, 2] rfl)
    · refine lv_lload_n hx hb d_mo_half_4 rfl (lv_at hl 0 rfl) ?_
      refine lv_ldc2 (v := (4294967295 : Int64)) hx hb hown (hts _ m_735) d_mo_half_5 ?_
      refine lv_land hx hb d_mo_half_8 ?_
      refine lv_goto (tgt := 18) hx hb d_mo_half_9 (by decide) ?_
      exact J (p0 &&& (4294967295 : Int64)) _ _ _ (by rw [hF]; unfold f_mo_half; rw [if_neg c1]) (hP.sub [] rfl) (hD.sub [] (by decide) rfl) hS (lv_sub hl [0, 1, 2] rfl)
  · obtain ⟨x1, rfl⟩ : ∃ z, z = x9 := ⟨_, rfl⟩
    have hF : f_mo_half p0 p1 p2 = f_mo_half_18 p0 p1 p2 x1 := hF
    have hP : va_P D cls [] H := hP
    have hD : va_D A [] := hD
    have hl : lv_has ls 8 [(0, .long p0), (2, .int p1), (3, .int p2)] := hl
    refine W.eq (g2 := F0 m 18 ls [.long x1]) rfl ?_
    refine lv_lstore (lv' := [(4, .long x1), (0, .long p0), (2, .int p1), (3, .int p2)]) hx hb d_mo_half_18 hl (by decide) rfl (fun ls hl => ?_)
    refine lv_iload_n hx hb d_mo_half_20 rfl (lv_at hl 3 rfl) ?_
    refine jn_ (X := Int64) (A := A) (D := D) (H0 := s.heap) (fun x2 : Int64 => []) (fun x2 : Int64 => [.long x2]) (fun x2 : Int64 => [(4, .long x1), (0, .long p0), (2, .int p1), (3, .int p2)]) (fun x2 : Int64 => f_mo_half p0 p1 p2 = f_mo_half_33 p0 p1 p2 x1 x2) 33 8 (fun J => ?_) (fun x9 H locs ls hF hP hD hS hl => ?_)
    · refine lv_if_eq (tgt := 29) hx hb d_mo_half_21 (by decide) (fun c1 => ?_) (fun c1 => ?_)
      · refine lv_lload_n hx hb d_mo_half_29 rfl (lv_at hl 1 rfl) ?_
        refine lv_bipush (v := (32 : Int32)) hx hb d_mo_half_30 (by decide) ?_
        refine lv_lshr hx hb d_mo_half_32 rfl ?_
        exact J (p0 >>> (((32 : Int32) : Int32).toInt64 &&& 63)) _ _ _ (by rw [hF]; unfold f_mo_half_18; rw [if_pos c1]) (hP.sub [] rfl) (hD.sub [] (by decide) rfl) hS (lv_sub hl [0, 1, 2, 3] rfl)
      · refine lv_iload_n hx hb d_mo_half_24 rfl (lv_at hl 2 rfl) ?_
        refine lv_i2l hx hb d_mo_half_25 rfl ?_
        refine lv_goto (tgt := 33) hx hb d_mo_half_26 (by decide) ?_
        exact J ((p1 : Int32).toInt64) _ _ _ (by rw [hF]; unfold f_mo_half_18; rw [if_neg c1]) (hP.sub [] rfl) (hD.sub [] (by decide) rfl) hS (lv_sub hl [0, 1, 2, 3] rfl)
    · obtain ⟨x2, rfl⟩ : ∃ z, z = x9 := ⟨_, rfl⟩
      have hF : f_mo_half p0 p1 p2 = f_mo_half_33 p0 p1 p2 x1 x2 := hF
      have hP : va_P D cls [] H := hP
      have hD : va_D A [] := hD
      have hl : lv_has ls 8 [(4, .long x1), (0, .long p0), (2, .int p1), (3, .int p2)] := hl
      refine W.eq (g2 := F0 m 33 ls [.long x2]) rfl ?_
      refine lv_lstore (lv' := [(6, .long x2), (4, .long x1), (0, .long p0), (2, .int p1), (3, .int p2)]) hx hb d_mo_half_33 hl (by decide) rfl (fun ls hl => ?_)
      refine lv_lload hx hb d_mo_half_35 (lv_at hl 0 rfl) ?_
      refine lv_bipush (v := (32 : Int32)) hx hb d_mo_half_37 (by decide) ?_
      refine lv_lshl hx hb d_mo_half_39 rfl ?_
      refine lv_lload hx hb d_mo_half_40 (lv_at hl 1 rfl) ?_
      refine lv_lor hx hb d_mo_half_42 ?_
      have hE : f_mo_half p0 p1 p2 = ((x2 <<< (((32 : Int32) : Int32).toInt64 &&& 63)) ||| x1) := by
        rw [hF]; unfold f_mo_half_33; rfl
      rw [hE]
      exact rt_l hx hb hr hlocks hP hD hK hS [] rfl (by decide) rfl rfl d_mo_half_43
