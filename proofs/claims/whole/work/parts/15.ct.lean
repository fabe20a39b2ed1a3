def f_ct_claim (v_cs : Int32) (v_ce : Int32) (v_pe : Int32) (v_pr : (Nat → Int32)) (v_se : (Nat → Int32)) : Int32 × Int32 × (Nat → Int32) := (if (f_so_best v_pe v_pr v_ce (0 : Int32)) = 0 then (f_so_best v_pe v_pr v_ce (0 : Int32), v_pe, v_se) else (f_so_best v_pe v_pr v_ce (0 : Int32), (f_so_serve v_pe v_se (f_so_best v_pe v_pr v_ce (0 : Int32)) v_cs).1, (f_so_serve v_pe v_se (f_so_best v_pe v_pr v_ce (0 : Int32)) v_cs).2))
set_option maxHeartbeats 4000000 in
set_option maxRecDepth 100000 in
theorem c_ct_claim (l : Launch) (D : va_G) (k : k3) (aC : Nat) (aS : Nat) (a1 : Nat) (a2 : Nat) (a3 : Nat) (sz : Nat) (v_cs : Int32) (v_ce : Int32) (v_ct : Int32) (v_eg : Int32) (v_hi : Int32) (v_pe : Int32) (v_pr : (Nat → Int32)) (v_wa : (Nat → Int32)) (v_se : (Nat → Int32)) : Met l y_ct_claim (Cond.code y_ct_claim b_ct_claim 2 (some .int) :: uW) ({ frames := 2, cells := 0, slots := 0, locals := 46 }) (va_Pc [.ref aC] (pr_ D k sz [(aC, .inr (0, [.ref aS, .int v_cs, .int v_ce, .int v_ct])), (aS, .inr (4, [.int v_eg, .ref a1, .ref a2, .ref a3, .int v_hi, .int v_pe])), (a1, .inl (k.1, 16, .inl v_pr)), (a2, .inl (k.1, 16, .inl v_wa)), (a3, .inl (k.1, 16, .inl v_se))])) (va_Qi (fun (r : Int32) (_ : Unit) => r = (f_ct_claim v_cs v_ce v_pe v_pr v_se).1) (fun _ t => po_ D k (va_A [(aC, .inr (0, [.ref aS, .int v_cs, .int v_ce, .int v_ct])), (aS, .inr (4, [.int v_eg, .ref a1, .ref a2, .ref a3, .int v_hi, .int v_pe])), (a1, .inl (k.1, 16, .inl v_pr)), (a2, .inl (k.1, 16, .inl v_wa)), (a3, .inl (k.1, 16, .inl v_se))] sz) [(aC, .inr (0, [.ref aS, .int v_cs, .int v_ce, .int v_ct])), (aS, .inr (4, [.int v_eg, .ref a1, .ref a2, .ref a3, .int v_hi, .int ((f_ct_claim v_cs v_ce v_pe v_pr v_se).2.1)])), (a1, .inl (k.1, 16, .inl v_pr)), (a2, .inl (k.1, 16, .inl v_wa)), (a3, .inl (k.1, 16, .inl ((f_ct_claim v_cs v_ce v_pe v_pr v_se).2.2)))] t) (va_A [(aC, .inr (0, [.ref aS, .int v_cs, .int v_ce, .int v_ct])), (aS, .inr (4, [.int v_eg, .ref a1, .ref a2, .ref a3, .int v_hi, .int v_pe])), (a1, .inl (k.1, 16, .inl v_pr)), (a2, .inl (k.1, 16, .inl v_wa)), (a3, .inl (k.1, 16, .inl v_se))] sz)) 0 0 (va_A [(aC, .inr (0, [.ref aS, .int v_cs, .int v_ce, .int v_ct])), (aS, .inr (4, [.int v_eg, .ref a1, .ref a2, .ref a3, .int v_hi, .int v_pe])), (a1, .inl (k.1, 16, .inl v_pr)), (a2, .inl (k.1, 16, .inl v_wa)), (a3, .inl (k.1, 16, .inl v_se))] sz) := by
  refine en_ (by decide) ?_
  intro p e s m below meth c hsz hx hb hr hml hown hts hlocks hin hP hK hD hN hV
  subst hsz
  generalize hAe : va_A [(aC, .inr (0, [.ref aS, .int v_cs, .int v_ce, .int v_ct])), (aS, .inr (4, [.int v_eg, .ref a1, .ref a2, .ref a3, .int v_hi, .int v_pe])), (a1, .inl (k.1, 16, .inl v_pr)), (a2, .inl (k.1, 16, .inl v_wa)), (a3, .inl (k.1, 16, .inl v_se))] s.heap.size = A at hD hV ⊢
  have hA : ∀ q : Nat, s.heap.size ≤ q → A q := fun q h => by rw [← hAe]; exact Or.inr h
  have hS : va_S A s.heap s.heap [] := va_S.rf
  have hF : f_ct_claim v_cs v_ce v_pe v_pr v_se = f_ct_claim v_cs v_ce v_pe v_pr v_se := rfl
  have hl := lv_entry ([.ref aC]) (n := 2) (Nat.le_of_ble_eq_true rfl)
  rw [lg_entry_eq]
  generalize (lg_sl ([.ref aC]) ++ List.replicate (2 - (lg_sl ([.ref aC])).length) Slot.unset).toArray = ls at hl ⊢
  have hl : lv_has ls 2 [(0, .ref aC)] := hl
  obtain ⟨H, hH⟩ : ∃ z, z = s.heap := ⟨_, rfl⟩
  have hP : va_P D cls [(aC, .inr (0, [.ref aS, .int v_cs, .int v_ce, .int v_ct])), (aS, .inr (4, [.int v_eg, .ref a1, .ref a2, .ref a3, .int v_hi, .int v_pe])), (a1, .inl (k.1, 16, .inl v_pr)), (a2, .inl (k.1, 16, .inl v_wa)), (a3, .inl (k.1, 16, .inl v_se))] H := by rw [hH]; exact hP
  have hS : va_S A s.heap H [] := by rw [hH]; exact hS
  refine wH_ hH ?_
  refine lv_aload_n hx hb d_ct_claim_0 rfl (lv_at hl 0 rfl) ?_
  refine va_get (D := D) (ci := 0) (v := .ref aS) (C := R_ct) (T := T_ct) (N := 4) hx hb hts iu_ct hown hK hP 0 rfl rfl 0 (by decide) (hts _ m_70) (fun _ h9 => h9) rfl d_ct_claim_1 ?_
  refine lv_aload_n hx hb d_ct_claim_4 rfl (lv_at hl 0 rfl) ?_
  refine va_get (D := D) (ci := 0) (v := .int v_ce) (C := R_ct) (T := T_ct) (N := 4) hx hb hts iu_ct hown hK hP 0 rfl rfl 2 (by decide) (hts _ m_72) (fun _ h9 => h9) rfl d_ct_claim_5 ?_
  refine lv_iconst (v := (0 : Int32)) hx hb d_ct_claim_8 (by decide) ?_
  refine fn_i (rn_VN (own := "TrapHart$Context") (index := 20) (n := 2) (C := "TrapHart$Sources") (As := [.int v_ce, .int (0 : Int32)]) (rest := []) (isC := [1, 2, 3, 4]) (ws := [(aC, .inr (0, [.ref aS, .int v_cs, .int v_ce, .int v_ct])), (aS, .inr (4, [.int v_eg, .ref a1, .ref a2, .ref a3, .int v_hi, .int v_pe])), (a1, .inl (k.1, 16, .inl v_pr)), (a2, .inl (k.1, 16, .inl v_wa)), (a3, .inl (k.1, 16, .inl v_se))]) (wc := [(aS, .inr (4, [.int v_eg, .ref a1, .ref a2, .ref a3, .int v_hi, .int v_pe])), (a1, .inl (k.1, 16, .inl v_pr)), (a2, .inl (k.1, 16, .inl v_wa)), (a3, .inl (k.1, 16, .inl v_se))]) ⟨hx, hb, hml, hown, hts⟩ (c_so_best l D k aS a1 a2 a3 H.size v_eg v_hi v_pe v_pr v_wa v_se v_ce (0 : Int32)) n_288 m_290 ms_12 m_3 m_291 rfl rfl (by decide +kernel) ⟨Nat.le_of_ble_eq_true rfl, Nat.le_of_ble_eq_true rfl⟩ hP hK hD hN hV hS hA rfl (by decide) rfl rfl rfl rfl rfl hl.1 rfl (lv_room (Nat.le_of_ble_eq_true rfl)) d_ct_claim_9 ⟨Nat.le_of_ble_eq_true rfl, Nat.le_of_ble_eq_true rfl⟩) hP hD hS hA [1, 2, 3, 4] [0] (wr := [(aC, .inr (0, [.ref aS, .int v_cs, .int v_ce, .int v_ct]))]) rfl rfl (by decide) (by decide) (fun H locs hP hD hS => ?_)
  have hP : va_P D cls [(aC, .inr (0, [.ref aS, .int v_cs, .int v_ce, .int v_ct])), (aS, .inr (4, [.int v_eg, .ref a1, .ref a2, .ref a3, .int v_hi, .int v_pe])), (a1, .inl (k.1, 16, .inl v_pr)), (a2, .inl (k.1, 16, .inl v_wa)), (a3, .inl (k.1, 16, .inl v_se))] H := hP
  have hD : va_D A [(aC, .inr (0, [.ref aS, .int v_cs, .int v_ce, .int v_ct])), (aS, .inr (4, [.int v_eg, .ref a1, .ref a2, .ref a3, .int v_hi, .int v_pe])), (a1, .inl (k.1, 16, .inl v_pr)), (a2, .inl (k.1, 16, .inl v_wa)), (a3, .inl (k.1, 16, .inl v_se))] := hD
  refine lv_istore_n (lv' := [(1, .int (f_so_best v_pe v_pr v_ce (0 : Int32))), (0, .ref aC)]) hx hb d_ct_claim_12 rfl hl (by decide) rfl (fun ls hl => ?_)
  refine lv_iload_n hx hb d_ct_claim_13 rfl (lv_at hl 0 rfl) ?_
  refine lv_if_eq (tgt := 29) hx hb d_ct_claim_14 (by decide) (fun c1 => ?_) (fun c1 => ?_)
  · refine lv_iload_n hx hb d_ct_claim_29 rfl (lv_at hl 0 rfl) ?_
    have hE : f_ct_claim v_cs v_ce v_pe v_pr v_se = (f_so_best v_pe v_pr v_ce (0 : Int32), v_pe, v_se) := by
      rw [hF]; unfold f_ct_claim; rw [if_pos c1]
    rw [hE]
    exact rt_i hx hb hr hlocks hP hD hK hS [0, 1, 2, 3, 4] rfl (by decide) rfl rfl d_ct_claim_30
  · refine lv_aload_n hx hb d_ct_claim_17 rfl (lv_at hl 1 rfl) ?_
    refine va_get (D := D) (ci := 0) (v := .ref aS) (C := R_ct) (T := T_ct) (N := 4) hx hb hts iu_ct hown hK hP 0 rfl rfl 0 (by decide) (hts _ m_70) (fun _ h9 => h9) rfl d_ct_claim_18 ?_
    refine lv_iload_n hx hb d_ct_claim_21 rfl (lv_at hl 0 rfl) ?_
    refine lv_aload_n hx hb d_ct_claim_22 rfl (lv_at hl 1 rfl) ?_
    refine va_get (D := D) (ci := 0) (v := .int v_cs) (C := R_ct) (T := T_ct) (N := 4) hx hb hts iu_ct hown hK hP 0 rfl rfl 1 (by decide) (hts _ m_71) (fun _ h9 => h9) rfl d_ct_claim_23 ?_
    refine fn_v (rn_VN (own := "TrapHart$Context") (index := 26) (n := 2) (C := "TrapHart$Sources") (As := [.int (f_so_best v_pe v_pr v_ce (0 : Int32)), .int v_cs]) (rest := []) (isC := [1, 2, 3, 4]) (ws := [(aC, .inr (0, [.ref aS, .int v_cs, .int v_ce, .int v_ct])), (aS, .inr (4, [.int v_eg, .ref a1, .ref a2, .ref a3, .int v_hi, .int v_pe])), (a1, .inl (k.1, 16, .inl v_pr)), (a2, .inl (k.1, 16, .inl v_wa)), (a3, .inl (k.1, 16, .inl v_se))]) (wc := [(aS, .inr (4, [.int v_eg, .ref a1, .ref a2, .ref a3, .int v_hi, .int v_pe])), (a1, .inl (k.1, 16, .inl v_pr)), (a2, .inl (k.1, 16, .inl v_wa)), (a3, .inl (k.1, 16, .inl v_se))]) ⟨hx, hb, hml, hown, hts⟩ (c_so_serve l D k aS a1 a2 a3 H.size v_eg v_hi v_pe v_pr v_wa v_se (f_so_best v_pe v_pr v_ce (0 : Int32)) v_cs (ix_best _ _ _ _)) n_292 m_294 ms_13 m_3 m_295 rfl rfl (by decide +kernel) ⟨Nat.le_of_ble_eq_true rfl, Nat.le_of_ble_eq_true rfl⟩ hP hK hD hN hV hS hA rfl (by decide) rfl rfl rfl rfl rfl hl.1 rfl (lv_room (Nat.le_of_ble_eq_true rfl)) d_ct_claim_26 ⟨Nat.le_of_ble_eq_true rfl, Nat.le_of_ble_eq_true rfl⟩) hP hD hS hA [1, 2, 3, 4] [0] (wr := [(aC, .inr (0, [.ref aS, .int v_cs, .int v_ce, .int v_ct]))]) rfl rfl (by decide) (by decide) (fun H locs hP hD hS => ?_)
    have hP : va_P D cls [(aC, .inr (0, [.ref aS, .int v_cs, .int v_ce, .int v_ct])), (aS, .inr (4, [.int v_eg, .ref a1, .ref a2, .ref a3, .int v_hi, .int ((f_so_serve v_pe v_se (f_so_best v_pe v_pr v_ce (0 : Int32)) v_cs).1)])), (a1, .inl (k.1, 16, .inl v_pr)), (a2, .inl (k.1, 16, .inl v_wa)), (a3, .inl (k.1, 16, .inl ((f_so_serve v_pe v_se (f_so_best v_pe v_pr v_ce (0 : Int32)) v_cs).2)))] H := hP
    have hD : va_D A [(aC, .inr (0, [.ref aS, .int v_cs, .int v_ce, .int v_ct])), (aS, .inr (4, [.int v_eg, .ref a1, .ref a2, .ref a3, .int v_hi, .int ((f_so_serve v_pe v_se (f_so_best v_pe v_pr v_ce (0 : Int32)) v_cs).1)])), (a1, .inl (k.1, 16, .inl v_pr)), (a2, .inl (k.1, 16, .inl v_wa)), (a3, .inl (k.1, 16, .inl ((f_so_serve v_pe v_se (f_so_best v_pe v_pr v_ce (0 : Int32)) v_cs).2)))] := hD
    refine lv_iload_n hx hb d_ct_claim_29 rfl (lv_at hl 0 rfl) ?_
    have hE : f_ct_claim v_cs v_ce v_pe v_pr v_se = (f_so_best v_pe v_pr v_ce (0 : Int32), (f_so_serve v_pe v_se (f_so_best v_pe v_pr v_ce (0 : Int32)) v_cs).1, (f_so_serve v_pe v_se (f_so_best v_pe v_pr v_ce (0 : Int32)) v_cs).2) := by
      rw [hF]; unfold f_ct_claim; rw [if_neg c1]
    rw [hE]
    exact rt_i hx hb hr hlocks hP hD hK hS [0, 1, 2, 3, 4] rfl (by decide) rfl rfl d_ct_claim_30
def f_ct_complete (v_ce : Int32) (v_eg : Int32) (v_hi : Int32) (v_pe : Int32) (v_wa : (Nat → Int32)) (v_se : (Nat → Int32)) (p0 : Int32) : Int32 × (Nat → Int32) × (Nat → Int32) := (if p0 < (1 : Int32) then (v_pe, v_wa, v_se) else (if (15 : Int32) < p0 then (v_pe, v_wa, v_se) else (if (f_th_hasBit v_ce p0) = 0 then (v_pe, v_wa, v_se) else ((f_so_release v_eg v_hi v_pe v_wa v_se p0).1, (f_so_release v_eg v_hi v_pe v_wa v_se p0).2.1, (f_so_release v_eg v_hi v_pe v_wa v_se p0).2.2))))
set_option maxHeartbeats 4000000 in
set_option maxRecDepth 100000 in
theorem c_ct_complete (l : Launch) (D : va_G) (k : k3) (aC : Nat) (aS : Nat) (a1 : Nat) (a2 : Nat) (a3 : Nat) (sz : Nat) (v_cs : Int32) (v_ce : Int32) (v_ct : Int32) (v_eg : Int32) (v_hi : Int32) (v_pe : Int32) (v_pr : (Nat → Int32)) (v_wa : (Nat → Int32)) (v_se : (Nat → Int32)) (p0 : Int32) : Met l y_ct_complete (Cond.code y_ct_complete b_ct_complete 2 none :: uW) ({ frames := 3, cells := 0, slots := 0, locals := 63 }) (va_Pc [.ref aC, .int p0] (pr_ D k sz [(aC, .inr (0, [.ref aS, .int v_cs, .int v_ce, .int v_ct])), (aS, .inr (4, [.int v_eg, .ref a1, .ref a2, .ref a3, .int v_hi, .int v_pe])), (a1, .inl (k.1, 16, .inl v_pr)), (a2, .inl (k.1, 16, .inl v_wa)), (a3, .inl (k.1, 16, .inl v_se))])) (va_Qv (fun (_ : Unit) => True) (fun _ t => po_ D k (va_A [(aC, .inr (0, [.ref aS, .int v_cs, .int v_ce, .int v_ct])), (aS, .inr (4, [.int v_eg, .ref a1, .ref a2, .ref a3, .int v_hi, .int v_pe])), (a1, .inl (k.1, 16, .inl v_pr)), (a2, .inl (k.1, 16, .inl v_wa)), (a3, .inl (k.1, 16, .inl v_se))] sz) [(aC, .inr (0, [.ref aS, .int v_cs, .int v_ce, .int v_ct])), (aS, .inr (4, [.int v_eg, .ref a1, .ref a2, .ref a3, .int v_hi, .int ((f_ct_complete v_ce v_eg v_hi v_pe v_wa v_se p0).1)])), (a1, .inl (k.1, 16, .inl v_pr)), (a2, .inl (k.1, 16, .inl ((f_ct_complete v_ce v_eg v_hi v_pe v_wa v_se p0).2.1))), (a3, .inl (k.1, 16, .inl ((f_ct_complete v_ce v_eg v_hi v_pe v_wa v_se p0).2.2)))] t) (va_A [(aC, .inr (0, [.ref aS, .int v_cs, .int v_ce, .int v_ct])), (aS, .inr (4, [.int v_eg, .ref a1, .ref a2, .ref a3, .int v_hi, .int v_pe])), (a1, .inl (k.1, 16, .inl v_pr)), (a2, .inl (k.1, 16, .inl v_wa)), (a3, .inl (k.1, 16, .inl v_se))] sz)) 0 0 (va_A [(aC, .inr (0, [.ref aS, .int v_cs, .int v_ce, .int v_ct])), (aS, .inr (4, [.int v_eg, .ref a1, .ref a2, .ref a3, .int v_hi, .int v_pe])), (a1, .inl (k.1, 16, .inl v_pr)), (a2, .inl (k.1, 16, .inl v_wa)), (a3, .inl (k.1, 16, .inl v_se))] sz) := by
  refine en_ (by decide) ?_
  intro p e s m below meth c hsz hx hb hr hml hown hts hlocks hin hP hK hD hN hV
  subst hsz
  generalize hAe : va_A [(aC, .inr (0, [.ref aS, .int v_cs, .int v_ce, .int v_ct])), (aS, .inr (4, [.int v_eg, .ref a1, .ref a2, .ref a3, .int v_hi, .int v_pe])), (a1, .inl (k.1, 16, .inl v_pr)), (a2, .inl (k.1, 16, .inl v_wa)), (a3, .inl (k.1, 16, .inl v_se))] s.heap.size = A at hD hV ⊢
  have hA : ∀ q : Nat, s.heap.size ≤ q → A q := fun q h => by rw [← hAe]; exact Or.inr h
  have hS : va_S A s.heap s.heap [] := va_S.rf
  have hF : f_ct_complete v_ce v_eg v_hi v_pe v_wa v_se p0 = f_ct_complete v_ce v_eg v_hi v_pe v_wa v_se p0 := rfl
  have hl := lv_entry ([.ref aC, .int p0]) (n := 2) (Nat.le_of_ble_eq_true rfl)
  rw [lg_entry_eq]
  generalize (lg_sl ([.ref aC, .int p0]) ++ List.replicate (2 - (lg_sl ([.ref aC, .int p0])).length) Slot.unset).toArray = ls at hl ⊢
  have hl : lv_has ls 2 [(0, .ref aC), (1, .int p0)] := hl
  obtain ⟨H, hH⟩ : ∃ z, z = s.heap := ⟨_, rfl⟩
  have hP : va_P D cls [(aC, .inr (0, [.ref aS, .int v_cs, .int v_ce, .int v_ct])), (aS, .inr (4, [.int v_eg, .ref a1, .ref a2, .ref a3, .int v_hi, .int v_pe])), (a1, .inl (k.1, 16, .inl v_pr)), (a2, .inl (k.1, 16, .inl v_wa)), (a3, .inl (k.1, 16, .inl v_se))] H := by rw [hH]; exact hP
  have hS : va_S A s.heap H [] := by rw [hH]; exact hS
  refine wH_ hH ?_
  refine lv_iload_n hx hb d_ct_complete_0 rfl (lv_at hl 1 rfl) ?_
  refine lv_iconst (v := (1 : Int32)) hx hb d_ct_complete_1 (by decide) ?_
  refine lv_icmp_lt (tgt := 30) hx hb d_ct_complete_2 (by decide) (fun c1 => ?_) (fun c1 => ?_)
  · have hE : f_ct_complete v_ce v_eg v_hi v_pe v_wa v_se p0 = (v_pe, v_wa, v_se) := by
      rw [hF]; unfold f_ct_complete; rw [if_pos c1]
    rw [hE]
    exact rt_v hx hb hr hlocks hP hD hK hS [0, 1, 2, 3, 4] rfl (by decide) rfl d_ct_complete_30
  · refine lv_iload_n hx hb d_ct_complete_5 rfl (lv_at hl 1 rfl) ?_
    refine lv_bipush (v := (15 : Int32)) hx hb d_ct_complete_6 (by decide) ?_
    refine lv_icmp_gt (tgt := 30) hx hb d_ct_complete_8 (by decide) (fun c2 => ?_) (fun c2 => ?_)
    · have hE : f_ct_complete v_ce v_eg v_hi v_pe v_wa v_se p0 = (v_pe, v_wa, v_se) := by
        rw [hF]; unfold f_ct_complete; rw [if_neg c1, if_pos c2]
      rw [hE]
      exact rt_v hx hb hr hlocks hP hD hK hS [0, 1, 2, 3, 4] rfl (by decide) rfl d_ct_complete_30
    · refine lv_aload_n hx hb d_ct_complete_11 rfl (lv_at hl 0 rfl) ?_
      refine va_get (D := D) (ci := 0) (v := .int v_ce) (C := R_ct) (T := T_ct) (N := 4) hx hb hts iu_ct hown hK hP 0 rfl rfl 2 (by decide) (hts _ m_72) (fun _ h9 => h9) rfl d_ct_complete_12 ?_
      refine lv_iload_n hx hb d_ct_complete_15 rfl (lv_at hl 1 rfl) ?_
      refine fn_i (rn_SN (own := "TrapHart$Context") (index := 30) (n := 2) (As := [.int v_ce, .int p0]) (rest := []) (isC := []) (ws := [(aC, .inr (0, [.ref aS, .int v_cs, .int v_ce, .int v_ct])), (aS, .inr (4, [.int v_eg, .ref a1, .ref a2, .ref a3, .int v_hi, .int v_pe])), (a1, .inl (k.1, 16, .inl v_pr)), (a2, .inl (k.1, 16, .inl v_wa)), (a3, .inl (k.1, 16, .inl v_se))]) (wc := []) ⟨hx, hb, hml, hown, hts⟩ (c_th_hasBit l D k H.size v_ce p0) n_267 m_210 m_1 m_211 rfl rfl (by decide +kernel) ⟨Nat.le_of_ble_eq_true rfl, Nat.le_of_ble_eq_true rfl⟩ hP hK hD hN hV hS hA rfl (by decide) rfl rfl hl.1 rfl (lv_room (Nat.le_of_ble_eq_true rfl)) d_ct_complete_16 ⟨Nat.le_of_ble_eq_true rfl, Nat.le_of_ble_eq_true rfl⟩) hP hD hS hA [] [0, 1, 2, 3, 4] (wr := [(aC, .inr (0, [.ref aS, .int v_cs, .int v_ce, .int v_ct])), (aS, .inr (4, [.int v_eg, .ref a1, .ref a2, .ref a3, .int v_hi, .int v_pe])), (a1, .inl (k.1, 16, .inl v_pr)), (a2, .inl (k.1, 16, .inl v_wa)), (a3, .inl (k.1, 16, .inl v_se))]) rfl rfl (by decide) (by decide) (fun H locs hP hD hS => ?_)
      have hP : va_P D cls [(aC, .inr (0, [.ref aS, .int v_cs, .int v_ce, .int v_ct])), (aS, .inr (4, [.int v_eg, .ref a1, .ref a2, .ref a3, .int v_hi, .int v_pe])), (a1, .inl (k.1, 16, .inl v_pr)), (a2, .inl (k.1, 16, .inl v_wa)), (a3, .inl (k.1, 16, .inl v_se))] H := hP
      have hD : va_D A [(aC, .inr (0, [.ref aS, .int v_cs, .int v_ce, .int v_ct])), (aS, .inr (4, [.int v_eg, .ref a1, .ref a2, .ref a3, .int v_hi, .int v_pe])), (a1, .inl (k.1, 16, .inl v_pr)), (a2, .inl (k.1, 16, .inl v_wa)), (a3, .inl (k.1, 16, .inl v_se))] := hD
      refine lv_if_eq (tgt := 30) hx hb d_ct_complete_19 (by decide) (fun c3 => ?_) (fun c3 => ?_)
      · have hE : f_ct_complete v_ce v_eg v_hi v_pe v_wa v_se p0 = (v_pe, v_wa, v_se) := by
          rw [hF]; unfold f_ct_complete; rw [if_neg c1, if_neg c2, if_pos c3]
        rw [hE]
        exact rt_v hx hb hr hlocks hP hD hK hS [0, 1, 2, 3, 4] rfl (by decide) rfl d_ct_complete_30
      · refine lv_aload_n hx hb d_ct_complete_22 rfl (lv_at hl 0 rfl) ?_
        refine va_get (D := D) (ci := 0) (v := .ref aS) (C := R_ct) (T := T_ct) (N := 4) hx hb hts iu_ct hown hK hP 0 rfl rfl 0 (by decide) (hts _ m_70) (fun _ h9 => h9) rfl d_ct_complete_23 ?_
        refine lv_iload_n hx hb d_ct_complete_26 rfl (lv_at hl 1 rfl) ?_
        refine fn_v (rn_VN (own := "TrapHart$Context") (index := 36) (n := 1) (C := "TrapHart$Sources") (As := [.int p0]) (rest := []) (isC := [1, 2, 3, 4]) (ws := [(aC, .inr (0, [.ref aS, .int v_cs, .int v_ce, .int v_ct])), (aS, .inr (4, [.int v_eg, .ref a1, .ref a2, .ref a3, .int v_hi, .int v_pe])), (a1, .inl (k.1, 16, .inl v_pr)), (a2, .inl (k.1, 16, .inl v_wa)), (a3, .inl (k.1, 16, .inl v_se))]) (wc := [(aS, .inr (4, [.int v_eg, .ref a1, .ref a2, .ref a3, .int v_hi, .int v_pe])), (a1, .inl (k.1, 16, .inl v_pr)), (a2, .inl (k.1, 16, .inl v_wa)), (a3, .inl (k.1, 16, .inl v_se))]) ⟨hx, hb, hml, hown, hts⟩ (c_so_release l D k aS a1 a2 a3 H.size v_eg v_hi v_pe v_pr v_wa v_se p0 (ix_115 c1 c2)) n_268 m_270 ms_9 m_3 m_271 rfl rfl (by decide +kernel) ⟨Nat.le_of_ble_eq_true rfl, Nat.le_of_ble_eq_true rfl⟩ hP hK hD hN hV hS hA rfl (by decide) rfl rfl rfl rfl rfl hl.1 rfl (lv_room (Nat.le_of_ble_eq_true rfl)) d_ct_complete_27 ⟨Nat.le_of_ble_eq_true rfl, Nat.le_of_ble_eq_true rfl⟩) hP hD hS hA [1, 2, 3, 4] [0] (wr := [(aC, .inr (0, [.ref aS, .int v_cs, .int v_ce, .int v_ct]))]) rfl rfl (by decide) (by decide) (fun H locs hP hD hS => ?_)
        have hP : va_P D cls [(aC, .inr (0, [.ref aS, .int v_cs, .int v_ce, .int v_ct])), (aS, .inr (4, [.int v_eg, .ref a1, .ref a2, .ref a3, .int v_hi, .int ((f_so_release v_eg v_hi v_pe v_wa v_se p0).1)])), (a1, .inl (k.1, 16, .inl v_pr)), (a2, .inl (k.1, 16, .inl ((f_so_release v_eg v_hi v_pe v_wa v_se p0).2.1))), (a3, .inl (k.1, 16, .inl ((f_so_release v_eg v_hi v_pe v_wa v_se p0).2.2)))] H := hP
        have hD : va_D A [(aC, .inr (0, [.ref aS, .int v_cs, .int v_ce, .int v_ct])), (aS, .inr (4, [.int v_eg, .ref a1, .ref a2, .ref a3, .int v_hi, .int ((f_so_release v_eg v_hi v_pe v_wa v_se p0).1)])), (a1, .inl (k.1, 16, .inl v_pr)), (a2, .inl (k.1, 16, .inl ((f_so_release v_eg v_hi v_pe v_wa v_se p0).2.1))), (a3, .inl (k.1, 16, .inl ((f_so_release v_eg v_hi v_pe v_wa v_se p0).2.2)))] := hD
        have hE : f_ct_complete v_ce v_eg v_hi v_pe v_wa v_se p0 = ((f_so_release v_eg v_hi v_pe v_wa v_se p0).1, (f_so_release v_eg v_hi v_pe v_wa v_se p0).2.1, (f_so_release v_eg v_hi v_pe v_wa v_se p0).2.2) := by
          rw [hF]; unfold f_ct_complete; rw [if_neg c1, if_neg c2, if_neg c3]
        rw [hE]
        exact rt_v hx hb hr hlocks hP hD hK hS [0, 1, 2, 3, 4] rfl (by decide) rfl d_ct_complete_30
def f_ct_isCalling (v_ce : Int32) (v_ct : Int32) (v_pe : Int32) (v_pr : (Nat → Int32)) : Int32 := (if (f_so_best v_pe v_pr v_ce v_ct) = 0 then (0 : Int32) else (1 : Int32))
set_option maxHeartbeats 4000000 in
set_option maxRecDepth 100000 in
theorem c_ct_isCalling (l : Launch) (D : va_G) (k : k3) (aC : Nat) (aS : Nat) (a1 : Nat) (a2 : Nat) (a3 : Nat) (sz : Nat) (v_cs : Int32) (v_ce : Int32) (v_ct : Int32) (v_eg : Int32) (v_hi : Int32) (v_pe : Int32) (v_pr : (Nat → Int32)) (v_wa : (Nat → Int32)) (v_se : (Nat → Int32)) : Met l y_ct_isCalling (Cond.code y_ct_isCalling b_ct_isCalling 1 (some .boolean) :: uW) ({ frames := 2, cells := 0, slots := 0, locals := 46 }) (va_Pc [.ref aC] (pr_ D k sz [(aC, .inr (0, [.ref aS, .int v_cs, .int v_ce, .int v_ct])), (aS, .inr (4, [.int v_eg, .ref a1, .ref a2, .ref a3, .int v_hi, .int v_pe])), (a1, .inl (k.1, 16, .inl v_pr)), (a2, .inl (k.1, 16, .inl v_wa)), (a3, .inl (k.1, 16, .inl v_se))])) (va_Qi (fun (r : Int32) (_ : Unit) => r = f_ct_isCalling v_ce v_ct v_pe v_pr) (fun _ t => po_ D k (va_A [(aC, .inr (0, [.ref aS, .int v_cs, .int v_ce, .int v_ct])), (aS, .inr (4, [.int v_eg, .ref a1, .ref a2, .ref a3, .int v_hi, .int v_pe])), (a1, .inl (k.1, 16, .inl v_pr)), (a2, .inl (k.1, 16, .inl v_wa)), (a3, .inl (k.1, 16, .inl v_se))] sz) [(aC, .inr (0, [.ref aS, .int v_cs, .int v_ce, .int v_ct])), (aS, .inr (4, [.int v_eg, .ref a1, .ref a2, .ref a3, .int v_hi, .int v_pe])), (a1, .inl (k.1, 16, .inl v_pr)), (a2, .inl (k.1, 16, .inl v_wa)), (a3, .inl (k.1, 16, .inl v_se))] t) (va_A [(aC, .inr (0, [.ref aS, .int v_cs, .int v_ce, .int v_ct])), (aS, .inr (4, [.int v_eg, .ref a1, .ref a2, .ref a3, .int v_hi, .int v_pe])), (a1, .inl (k.1, 16, .inl v_pr)), (a2, .inl (k.1, 16, .inl v_wa)), (a3, .inl (k.1, 16, .inl v_se))] sz)) 0 0 (va_A [(aC, .inr (0, [.ref aS, .int v_cs, .int v_ce, .int v_ct])), (aS, .inr (4, [.int v_eg, .ref a1, .ref a2, .ref a3, .int v_hi, .int v_pe])), (a1, .inl (k.1, 16, .inl v_pr)), (a2, .inl (k.1, 16, .inl v_wa)), (a3, .inl (k.1, 16, .inl v_se))] sz) := by
  refine en_ (by decide) ?_
  intro p e s m below meth c hsz hx hb hr hml hown hts hlocks hin hP hK hD hN hV
  subst hsz
  generalize hAe : va_A [(aC, .inr (0, [.ref aS, .int v_cs, .int v_ce, .int v_ct])), (aS, .inr (4, [.int v_eg, .ref a1, .ref a2, .ref a3, .int v_hi, .int v_pe])), (a1, .inl (k.1, 16, .inl v_pr)), (a2, .inl (k.1, 16, .inl v_wa)), (a3, .inl (k.1, 16, .inl v_se))] s.heap.size = A at hD hV ⊢
  have hA : ∀ q : Nat, s.heap.size ≤ q → A q := fun q h => by rw [← hAe]; exact Or.inr h
  have hS : va_S A s.heap s.heap [] := va_S.rf
  have hF : f_ct_isCalling v_ce v_ct v_pe v_pr = f_ct_isCalling v_ce v_ct v_pe v_pr := rfl
  have hl := lv_entry ([.ref aC]) (n := 1) (Nat.le_of_ble_eq_true rfl)
  rw [lg_entry_eq]
  generalize (lg_sl ([.ref aC]) ++ List.replicate (1 - (lg_sl ([.ref aC])).length) Slot.unset).toArray = ls at hl ⊢
  have hl : lv_has ls 1 [(0, .ref aC)] := hl
  obtain ⟨H, hH⟩ : ∃ z, z = s.heap := ⟨_, rfl⟩
  have hP : va_P D cls [(aC, .inr (0, [.ref aS, .int v_cs, .int v_ce, .int v_ct])), (aS, .inr (4, [.int v_eg, .ref a1, .ref a2, .ref a3, .int v_hi, .int v_pe])), (a1, .inl (k.1, 16, .inl v_pr)), (a2, .inl (k.1, 16, .inl v_wa)), (a3, .inl (k.1, 16, .inl v_se))] H := by rw [hH]; exact hP
  have hS : va_S A s.heap H [] := by rw [hH]; exact hS
  refine wH_ hH ?_
  refine lv_aload_n hx hb d_ct_isCalling_0 rfl (lv_at hl 0 rfl) ?_
  refine va_get (D := D) (ci := 0) (v := .ref aS) (C := R_ct) (T := T_ct) (N := 4) hx hb hts iu_ct hown hK hP 0 rfl rfl 0 (by decide) (hts _ m_70) (fun _ h9 => h9) rfl d_ct_isCalling_1 ?_
  refine lv_aload_n hx hb d_ct_isCalling_4 rfl (lv_at hl 0 rfl) ?_
  refine va_get (D := D) (ci := 0) (v := .int v_ce) (C := R_ct) (T := T_ct) (N := 4) hx hb hts iu_ct hown hK hP 0 rfl rfl 2 (by decide) (hts _ m_72) (fun _ h9 => h9) rfl d_ct_isCalling_5 ?_
  refine lv_aload_n hx hb d_ct_isCalling_8 rfl (lv_at hl 0 rfl) ?_
  refine va_get (D := D) (ci := 0) (v := .int v_ct) (C := R_ct) (T := T_ct) (N := 4) hx hb hts iu_ct hown hK hP 0 rfl rfl 3 (by decide) (hts _ m_74) (fun _ h9 => h9) rfl d_ct_isCalling_9 ?_
  refine fn_i (rn_VN (own := "TrapHart$Context") (index := 20) (n := 2) (C := "TrapHart$Sources") (As := [.int v_ce, .int v_ct]) (rest := []) (isC := [1, 2, 3, 4]) (ws := [(aC, .inr (0, [.ref aS, .int v_cs, .int v_ce, .int v_ct])), (aS, .inr (4, [.int v_eg, .ref a1, .ref a2, .ref a3, .int v_hi, .int v_pe])), (a1, .inl (k.1, 16, .inl v_pr)), (a2, .inl (k.1, 16, .inl v_wa)), (a3, .inl (k.1, 16, .inl v_se))]) (wc := [(aS, .inr (4, [.int v_eg, .ref a1, .ref a2, .ref a3, .int v_hi, .int v_pe])), (a1, .inl (k.1, 16, .inl v_pr)), (a2, .inl (k.1, 16, .inl v_wa)), (a3, .inl (k.1, 16, .inl v_se))]) ⟨hx, hb, hml, hown, hts⟩ (c_so_best l D k aS a1 a2 a3 H.size v_eg v_hi v_pe v_pr v_wa v_se v_ce v_ct) n_288 m_290 ms_12 m_3 m_291 rfl rfl (by decide +kernel) ⟨Nat.le_of_ble_eq_true rfl, Nat.le_of_ble_eq_true rfl⟩ hP hK hD hN hV hS hA rfl (by decide) rfl rfl rfl rfl rfl hl.1 rfl (lv_room (Nat.le_of_ble_eq_true rfl)) d_ct_isCalling_12 ⟨Nat.le_of_ble_eq_true rfl, Nat.le_of_ble_eq_true rfl⟩) hP hD hS hA [1, 2, 3, 4] [0] (wr := [(aC, .inr (0, [.ref aS, .int v_cs, .int v_ce, .int v_ct]))]) rfl rfl (by decide) (by decide) (fun H locs hP hD hS => ?_)
  have hP : va_P D cls [(aC, .inr (0, [.ref aS, .int v_cs, .int v_ce, .int v_ct])), (aS, .inr (4, [.int v_eg, .ref a1, .ref a2, .ref a3, .int v_hi, .int v_pe])), (a1, .inl (k.1, 16, .inl v_pr)), (a2, .inl (k.1, 16, .inl v_wa)), (a3, .inl (k.1, 16, .inl v_se))] H := hP
  have hD : va_D A [(aC, .inr (0, [.ref aS, .int v_cs, .int v_ce, .int v_ct])), (aS, .inr (4, [.int v_eg, .ref a1, .ref a2, .ref a3, .int v_hi, .int v_pe])), (a1, .inl (k.1, 16, .inl v_pr)), (a2, .inl (k.1, 16, .inl v_wa)), (a3, .inl (k.1, 16, .inl v_se))] := hD
  refine lv_if_eq (tgt := 22) hx hb d_ct_isCalling_15 (by decide) (fun c1 => ?_) (fun c1 => ?_)
  · refine lv_iconst (v := (0 : Int32)) hx hb d_ct_isCalling_22 (by decide) ?_
    have hE : f_ct_isCalling v_ce v_ct v_pe v_pr = (0 : Int32) := by
      rw [hF]; unfold f_ct_isCalling; rw [if_pos c1]
    rw [hE]
    exact rt_z hx hb hr hlocks hP hD hK hS [0, 1, 2, 3, 4] rfl (by decide) rfl rfl (by decide) d_ct_isCalling_23
  · refine lv_iconst (v := (1 : Int32)) hx hb d_ct_isCalling_18 (by decide) ?_
    refine lv_goto (tgt := 23) hx hb d_ct_isCalling_19 (by decide) ?_
    have hE : f_ct_isCalling v_ce v_ct v_pe v_pr = (1 : Int32) := by
      rw [hF]; unfold f_ct_isCalling; rw [if_neg c1]
    rw [hE]
    exact rt_z hx hb hr hlocks hP hD hK hS [0, 1, 2, 3, 4] rfl (by decide) rfl rfl (by decide) d_ct_isCalling_23
theorem zb_ct_isCalling (v_ce : Int32) (v_ct : Int32) (v_pe : Int32) (v_pr : Nat → Int32) : narrow .boolean (.int (f_ct_isCalling v_ce v_ct v_pe v_pr)) = .int (f_ct_isCalling v_ce v_ct v_pe v_pr) := by
  unfold f_ct_isCalling; repeat' (first | refine nz_ ?_ ?_ | rfl | exact zb_th_hasBit ..)
