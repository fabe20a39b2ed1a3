def f_so_serve (v_pe : Int32) (v_se : (Nat → Int32)) (p0 : Int32) (p1 : Int32) : Int32 × (Nat → Int32) := (v_pe &&& (((1 : Int32) <<< (p0 &&& 31)) ^^^ (-1 : Int32)), upd v_se (p0 : Int32).toNatClampNeg p1)
set_option maxHeartbeats 4000000 in
set_option maxRecDepth 100000 in
theorem c_so_serve (l : Launch) (D : va_G) (k : k3) (aS : Nat) (a1 : Nat) (a2 : Nat) (a3 : Nat) (sz : Nat) (v_eg : Int32) (v_hi : Int32) (v_pe : Int32) (v_pr : (Nat → Int32)) (v_wa : (Nat → Int32)) (v_se : (Nat → Int32)) (p0 : Int32) (p1 : Int32) (hs : vp_in p0 16) : Met l y_so_serve (Cond.code y_so_serve b_so_serve 3 none :: uW) ({ frames := 0, cells := 0, slots := 0, locals := 0 }) (va_Pc [.ref aS, .int p0, .int p1] (pr_ D k sz [(aS, .inr (4, [.int v_eg, .ref a1, .ref a2, .ref a3, .int v_hi, .int v_pe])), (a1, .inl (k.1, 16, .inl v_pr)), (a2, .inl (k.1, 16, .inl v_wa)), (a3, .inl (k.1, 16, .inl v_se))])) (va_Qv (fun (_ : Unit) => True) (fun _ t => po_ D k (va_A [(aS, .inr (4, [.int v_eg, .ref a1, .ref a2, .ref a3, .int v_hi, .int v_pe])), (a1, .inl (k.1, 16, .inl v_pr)), (a2, .inl (k.1, 16, .inl v_wa)), (a3, .inl (k.1, 16, .inl v_se))] sz) [(aS, .inr (4, [.int v_eg, .ref a1, .ref a2, .ref a3, .int v_hi, .int ((f_so_serve v_pe v_se p0 p1).1)])), (a1, .inl (k.1, 16, .inl v_pr)), (a2, .inl (k.1, 16, .inl v_wa)), (a3, .inl (k.1, 16, .inl ((f_so_serve v_pe v_se p0 p1).2)))] t) (va_A [(aS, .inr (4, [.int v_eg, .ref a1, .ref a2, .ref a3, .int v_hi, .int v_pe])), (a1, .inl (k.1, 16, .inl v_pr)), (a2, .inl (k.1, 16, .inl v_wa)), (a3, .inl (k.1, 16, .inl v_se))] sz)) 0 0 (va_A [(aS, .inr (4, [.int v_eg, .ref a1, .ref a2, .ref a3, .int v_hi, .int v_pe])), (a1, .inl (k.1, 16, .inl v_pr)), (a2, .inl (k.1, 16, .inl v_wa)), (a3, .inl (k.1, 16, .inl v_se))] sz) := by
  refine en_ (by decide) ?_
  intro p e s m below meth c hsz hx hb hr hml hown hts hlocks hin hP hK hD hN hV
  subst hsz
  generalize hAe : va_A [(aS, .inr (4, [.int v_eg, .ref a1, .ref a2, .ref a3, .int v_hi, .int v_pe])), (a1, .inl (k.1, 16, .inl v_pr)), (a2, .inl (k.1, 16, .inl v_wa)), (a3, .inl (k.1, 16, .inl v_se))] s.heap.size = A at hD hV ⊢
  have hA : ∀ q : Nat, s.heap.size ≤ q → A q := fun q h => by rw [← hAe]; exact Or.inr h
  have hS : va_S A s.heap s.heap [] := va_S.rf
  have hF : f_so_serve v_pe v_se p0 p1 = f_so_serve v_pe v_se p0 p1 := rfl
  have hl := lv_entry ([.ref aS, .int p0, .int p1]) (n := 3) (Nat.le_of_ble_eq_true rfl)
  rw [lg_entry_eq]
  generalize (lg_sl ([.ref aS, .int p0, .int p1]) ++ List.replicate (3 - (lg_sl ([.ref aS, .int p0, .int p1])).length) Slot.unset).toArray = ls at hl ⊢
  have hl : lv_has ls 3 [(0, .ref aS), (1, .int p0), (2, .int p1)] := hl
  obtain ⟨H, hH⟩ : ∃ z, z = s.heap := ⟨_, rfl⟩
  have hP : va_P D cls [(aS, .inr (4, [.int v_eg, .ref a1, .ref a2, .ref a3, .int v_hi, .int v_pe])), (a1, .inl (k.1, 16, .inl v_pr)), (a2, .inl (k.1, 16, .inl v_wa)), (a3, .inl (k.1, 16, .inl v_se))] H := by rw [hH]; exact hP
  have hS : va_S A s.heap H [] := by rw [hH]; exact hS
  refine wH_ hH ?_
  refine lv_aload_n hx hb d_so_serve_0 rfl (lv_at hl 0 rfl) ?_
  refine lv_dup hx hb d_so_serve_1 rfl ?_
  refine va_get (D := D) (ci := 4) (v := .int v_pe) (C := R_so) (T := T_so) (N := 6) hx hb hts iu_so hown hK hP 0 rfl rfl 5 (by decide) (hts _ m_48) (fun _ h9 => h9) rfl d_so_serve_2 ?_
  refine lv_iconst (v := (1 : Int32)) hx hb d_so_serve_5 (by decide) ?_
  refine lv_iload_n hx hb d_so_serve_6 rfl (lv_at hl 1 rfl) ?_
  refine lv_ishl hx hb d_so_serve_7 ?_
  refine lv_iconst (v := (-1 : Int32)) hx hb d_so_serve_8 (by decide) ?_
  refine lv_ixor hx hb d_so_serve_9 ?_
  refine lv_iand hx hb d_so_serve_10 ?_
  refine va_put (D := D) (ci := 4) (v := .int (v_pe &&& (((1 : Int32) <<< (p0 &&& 31)) ^^^ (-1 : Int32)))) (ty := .int) (C := R_so) (T := T_so) (N := 6) hx hb hts iu_so t_so tk_so nm_so hown hK hP hD hS 0 rfl rfl 5 (by decide) (hts _ m_48) (fun _ h9 => h9) rfl (by decide +kernel) rfl rfl (Nat.le_of_ble_eq_true rfl) d_so_serve_11 (fun H locs hP hD hS => ?_)
  have hP : va_P D cls [(aS, .inr (4, [.int v_eg, .ref a1, .ref a2, .ref a3, .int v_hi, .int (v_pe &&& (((1 : Int32) <<< (p0 &&& 31)) ^^^ (-1 : Int32)))])), (a1, .inl (k.1, 16, .inl v_pr)), (a2, .inl (k.1, 16, .inl v_wa)), (a3, .inl (k.1, 16, .inl v_se))] H := hP
  have hD : va_D A [(aS, .inr (4, [.int v_eg, .ref a1, .ref a2, .ref a3, .int v_hi, .int (v_pe &&& (((1 : Int32) <<< (p0 &&& 31)) ^^^ (-1 : Int32)))])), (a1, .inl (k.1, 16, .inl v_pr)), (a2, .inl (k.1, 16, .inl v_wa)), (a3, .inl (k.1, 16, .inl v_se))] := hD
  refine lv_aload_n hx hb d_so_serve_14 rfl (lv_at hl 0 rfl) ?_
  refine va_get (D := D) (ci := 4) (v := .ref a3) (C := R_so) (T := T_so) (N := 6) hx hb hts iu_so hown hK hP 0 rfl rfl 3 (by decide) (hts _ m_44) (fun _ h9 => h9) rfl d_so_serve_15 ?_
  refine lv_iload_n hx hb d_so_serve_18 rfl (lv_at hl 1 rfl) ?_
  refine lv_iload_n hx hb d_so_serve_19 rfl (lv_at hl 2 rfl) ?_
  refine va_iast hx hb hK hP hD hS 3 0 rfl rfl hs d_so_serve_20 (fun H locs hP hD hS => ?_)
  have hP : va_P D cls [(aS, .inr (4, [.int v_eg, .ref a1, .ref a2, .ref a3, .int v_hi, .int (v_pe &&& (((1 : Int32) <<< (p0 &&& 31)) ^^^ (-1 : Int32)))])), (a1, .inl (k.1, 16, .inl v_pr)), (a2, .inl (k.1, 16, .inl v_wa)), (a3, .inl (k.1, 16, .inl (upd v_se (p0 : Int32).toNatClampNeg p1)))] H := hP
  have hD : va_D A [(aS, .inr (4, [.int v_eg, .ref a1, .ref a2, .ref a3, .int v_hi, .int (v_pe &&& (((1 : Int32) <<< (p0 &&& 31)) ^^^ (-1 : Int32)))])), (a1, .inl (k.1, 16, .inl v_pr)), (a2, .inl (k.1, 16, .inl v_wa)), (a3, .inl (k.1, 16, .inl (upd v_se (p0 : Int32).toNatClampNeg p1)))] := hD
  have hE : f_so_serve v_pe v_se p0 p1 = (v_pe &&& (((1 : Int32) <<< (p0 &&& 31)) ^^^ (-1 : Int32)), upd v_se (p0 : Int32).toNatClampNeg p1) := by
    rw [hF]; unfold f_so_serve; rfl
  rw [hE]
  exact rt_v hx hb hr hlocks hP hD hK hS [0, 1, 2, 3] rfl (by decide) rfl d_so_serve_21
def f_so_forward (v_eg : Int32) (v_hi : Int32) (v_pe : Int32) (v_wa : (Nat → Int32)) (v_se : (Nat → Int32)) (p0 : Int32) : Int32 × (Nat → Int32) := (if (f_th_hasBit v_pe p0) = 0 then (if (v_se (p0 : Int32).toNatClampNeg) = 0 then (if (f_th_hasBit v_eg p0) = 0 then (v_pe ||| (v_hi &&& ((1 : Int32) <<< (p0 &&& 31))), v_wa) else (if (v_wa (p0 : Int32).toNatClampNeg) ≤ 0 then (v_pe, v_wa) else (v_pe ||| ((1 : Int32) <<< (p0 &&& 31)), upd v_wa (p0 : Int32).toNatClampNeg ((v_wa (p0 : Int32).toNatClampNeg) - (1 : Int32))))) else (v_pe, v_wa)) else (v_pe, v_wa))
set_option maxHeartbeats 4000000 in
set_option maxRecDepth 100000 in
theorem c_so_forward (l : Launch) (D : va_G) (k : k3) (aS : Nat) (a1 : Nat) (a2 : Nat) (a3 : Nat) (sz : Nat) (v_eg : Int32) (v_hi : Int32) (v_pe : Int32) (v_pr : (Nat → Int32)) (v_wa : (Nat → Int32)) (v_se : (Nat → Int32)) (p0 : Int32) (hs : vp_in p0 16) : Met l y_so_forward (Cond.code y_so_forward b_so_forward 2 none :: uW) ({ frames := 1, cells := 0, slots := 0, locals := 21 }) (va_Pc [.ref aS, .int p0] (pr_ D k sz [(aS, .inr (4, [.int v_eg, .ref a1, .ref a2, .ref a3, .int v_hi, .int v_pe])), (a1, .inl (k.1, 16, .inl v_pr)), (a2, .inl (k.1, 16, .inl v_wa)), (a3, .inl (k.1, 16, .inl v_se))])) (va_Qv (fun (_ : Unit) => True) (fun _ t => po_ D k (va_A [(aS, .inr (4, [.int v_eg, .ref a1, .ref a2, .ref a3, .int v_hi, .int v_pe])), (a1, .inl (k.1, 16, .inl v_pr)), (a2, .inl (k.1, 16, .inl v_wa)), (a3, .inl (k.1, 16, .inl v_se))] sz) [(aS, .inr (4, [.int v_eg, .ref a1, .ref a2, .ref a3, .int v_hi, .int ((f_so_forward v_eg v_hi v_pe v_wa v_se p0).1)])), (a1, .inl (k.1, 16, .inl v_pr)), (a2, .inl (k.1, 16, .inl ((f_so_forward v_eg v_hi v_pe v_wa v_se p0).2))), (a3, .inl (k.1, 16, .inl v_se))] t) (va_A [(aS, .inr (4, [.int v_eg, .ref a1, .ref a2, .ref a3, .int v_hi, .int v_pe])), (a1, .inl (k.1, 16, .inl v_pr)), (a2, .inl (k.1, 16, .inl v_wa)), (a3, .inl (k.1, 16, .inl v_se))] sz)) 0 0 (va_A [(aS, .inr (4, [.int v_eg, .ref a1, .ref a2, .ref a3, .int v_hi, .int v_pe])), (a1, .inl (k.1, 16, .inl v_pr)), (a2, .inl (k.1, 16, .inl v_wa)), (a3, .inl (k.1, 16, .inl v_se))] sz) := by
  refine en_ (by decide) ?_
  intro p e s m below meth c hsz hx hb hr hml hown hts hlocks hin hP hK hD hN hV
  subst hsz
  generalize hAe : va_A [(aS, .inr (4, [.int v_eg, .ref a1, .ref a2, .ref a3, .int v_hi, .int v_pe])), (a1, .inl (k.1, 16, .inl v_pr)), (a2, .inl (k.1, 16, .inl v_wa)), (a3, .inl (k.1, 16, .inl v_se))] s.heap.size = A at hD hV ⊢
  have hA : ∀ q : Nat, s.heap.size ≤ q → A q := fun q h => by rw [← hAe]; exact Or.inr h
  have hS : va_S A s.heap s.heap [] := va_S.rf
  have hF : f_so_forward v_eg v_hi v_pe v_wa v_se p0 = f_so_forward v_eg v_hi v_pe v_wa v_se p0 := rfl
  have hl := lv_entry ([.ref aS, .int p0]) (n := 2) (Nat.le_of_ble_eq_true rfl)
  rw [lg_entry_eq]
  generalize (lg_sl ([.ref aS, .int p0]) ++ List.replicate (2 - (lg_sl ([.ref aS, .int p0])).length) Slot.unset).toArray = ls at hl ⊢
  have hl : lv_has ls 2 [(0, .ref aS), (1, .int p0)] := hl
  obtain ⟨H, hH⟩ : ∃ z, z = s.heap := ⟨_, rfl⟩
  have hP : va_P D cls [(aS, .inr (4, [.int v_eg, .ref a1, .ref a2, .ref a3, .int v_hi, .int v_pe])), (a1, .inl (k.1, 16, .inl v_pr)), (a2, .inl (k.1, 16, .inl v_wa)), (a3, .inl (k.1, 16, .inl v_se))] H := by rw [hH]; exact hP
  have hS : va_S A s.heap H [] := by rw [hH]; exact hS
  refine wH_ hH ?_
  refine lv_aload_n hx hb d_so_forward_0 rfl (lv_at hl 0 rfl) ?_
  refine va_get (D := D) (ci := 4) (v := .int v_pe) (C := R_so) (T := T_so) (N := 6) hx hb hts iu_so hown hK hP 0 rfl rfl 5 (by decide) (hts _ m_48) (fun _ h9 => h9) rfl d_so_forward_1 ?_
  refine lv_iload_n hx hb d_so_forward_4 rfl (lv_at hl 1 rfl) ?_
  refine fn_i (rn_SN (own := "TrapHart$Sources") (index := 27) (n := 2) (As := [.int v_pe, .int p0]) (rest := []) (isC := []) (ws := [(aS, .inr (4, [.int v_eg, .ref a1, .ref a2, .ref a3, .int v_hi, .int v_pe])), (a1, .inl (k.1, 16, .inl v_pr)), (a2, .inl (k.1, 16, .inl v_wa)), (a3, .inl (k.1, 16, .inl v_se))]) (wc := []) ⟨hx, hb, hml, hown, hts⟩ (c_th_hasBit l D k H.size v_pe p0) n_209 m_210 m_1 m_211 rfl rfl (by decide +kernel) ⟨Nat.le_of_ble_eq_true rfl, Nat.le_of_ble_eq_true rfl⟩ hP hK hD hN hV hS hA rfl (by decide) rfl rfl hl.1 rfl (lv_room (Nat.le_of_ble_eq_true rfl)) d_so_forward_5 ⟨Nat.le_of_ble_eq_true rfl, Nat.le_of_ble_eq_true rfl⟩) hP hD hS hA [] [0, 1, 2, 3] (wr := [(aS, .inr (4, [.int v_eg, .ref a1, .ref a2, .ref a3, .int v_hi, .int v_pe])), (a1, .inl (k.1, 16, .inl v_pr)), (a2, .inl (k.1, 16, .inl v_wa)), (a3, .inl (k.1, 16, .inl v_se))]) rfl rfl (by decide) (by decide) (fun H locs hP hD hS => ?_)
  have hP : va_P D cls [(aS, .inr (4, [.int v_eg, .ref a1, .ref a2, .ref a3, .int v_hi, .int v_pe])), (a1, .inl (k.1, 16, .inl v_pr)), (a2, .inl (k.1, 16, .inl v_wa)), (a3, .inl (k.1, 16, .inl v_se))] H := hP
  have hD : va_D A [(aS, .inr (4, [.int v_eg, .ref a1, .ref a2, .ref a3, .int v_hi, .int v_pe])), (a1, .inl (k.1, 16, .inl v_pr)), (a2, .inl (k.1, 16, .inl v_wa)), (a3, .inl (k.1, 16, .inl v_se))] := hD
  refine lv_if_ne (tgt := 20) hx hb d_so_forward_8 (by decide) (fun c1 => ?_) (fun c1 => ?_)
  · have hE : f_so_forward v_eg v_hi v_pe v_wa v_se p0 = (v_pe, v_wa) := by
      rw [hF]; unfold f_so_forward; rw [if_neg c1]
    rw [hE]
    exact rt_v hx hb hr hlocks hP hD hK hS [0, 1, 2, 3] rfl (by decide) rfl d_so_forward_20
  · refine lv_aload_n hx hb d_so_forward_11 rfl (lv_at hl 0 rfl) ?_
    refine va_get (D := D) (ci := 4) (v := .ref a3) (C := R_so) (T := T_so) (N := 6) hx hb hts iu_so hown hK hP 0 rfl rfl 3 (by decide) (hts _ m_44) (fun _ h9 => h9) rfl d_so_forward_12 ?_
    refine lv_iload_n hx hb d_so_forward_15 rfl (lv_at hl 1 rfl) ?_
    refine va_iald hx hb hK hP 3 0 rfl rfl hs d_so_forward_16 ?_
    refine lv_if_eq (tgt := 21) hx hb d_so_forward_17 (by decide) (fun c2 => ?_) (fun c2 => ?_)
    · refine lv_aload_n hx hb d_so_forward_21 rfl (lv_at hl 0 rfl) ?_
      refine va_get (D := D) (ci := 4) (v := .int v_eg) (C := R_so) (T := T_so) (N := 6) hx hb hts iu_so hown hK hP 0 rfl rfl 0 (by decide) (hts _ m_39) (fun _ h9 => h9) rfl d_so_forward_22 ?_
      refine lv_iload_n hx hb d_so_forward_25 rfl (lv_at hl 1 rfl) ?_
      refine fn_i (rn_SN (own := "TrapHart$Sources") (index := 27) (n := 2) (As := [.int v_eg, .int p0]) (rest := []) (isC := []) (ws := [(aS, .inr (4, [.int v_eg, .ref a1, .ref a2, .ref a3, .int v_hi, .int v_pe])), (a1, .inl (k.1, 16, .inl v_pr)), (a2, .inl (k.1, 16, .inl v_wa)), (a3, .inl (k.1, 16, .inl v_se))]) (wc := []) ⟨hx, hb, hml, hown, hts⟩ (c_th_hasBit l D k H.size v_eg p0) n_209 m_210 m_1 m_211 rfl rfl (by decide +kernel) ⟨Nat.le_of_ble_eq_true rfl, Nat.le_of_ble_eq_true rfl⟩ hP hK hD hN hV hS hA rfl (by decide) rfl rfl hl.1 rfl (lv_room (Nat.le_of_ble_eq_true rfl)) d_so_forward_26 ⟨Nat.le_of_ble_eq_true rfl, Nat.le_of_ble_eq_true rfl⟩) hP hD hS hA [] [0, 1, 2, 3] (wr := [(aS, .inr (4, [.int v_eg, .ref a1, .ref a2, .ref a3, .int v_hi, .int v_pe])), (a1, .inl (k.1, 16, .inl v_pr)), (a2, .inl (k.1, 16, .inl v_wa)), (a3, .inl (k.1, 16, .inl v_se))]) rfl rfl (by decide) (by decide) (fun H locs hP hD hS => ?_)
      have hP : va_P D cls [(aS, .inr (4, [.int v_eg, .ref a1, .ref a2, .ref a3, .int v_hi, .int v_pe])), (a1, .inl (k.1, 16, .inl v_pr)), (a2, .inl (k.1, 16, .inl v_wa)), (a3, .inl (k.1, 16, .inl v_se))] H := hP
      have hD : va_D A [(aS, .inr (4, [.int v_eg, .ref a1, .ref a2, .ref a3, .int v_hi, .int v_pe])), (a1, .inl (k.1, 16, .inl v_pr)), (a2, .inl (k.1, 16, .inl v_wa)), (a3, .inl (k.1, 16, .inl v_se))] := hD
      refine lv_if_ne (tgt := 52) hx hb d_so_forward_29 (by decide) (fun c3 => ?_) (fun c3 => ?_)
      · refine lv_aload_n hx hb d_so_forward_52 rfl (lv_at hl 0 rfl) ?_
        refine va_get (D := D) (ci := 4) (v := .ref a2) (C := R_so) (T := T_so) (N := 6) hx hb hts iu_so hown hK hP 0 rfl rfl 2 (by decide) (hts _ m_42) (fun _ h9 => h9) rfl d_so_forward_53 ?_
        refine lv_iload_n hx hb d_so_forward_56 rfl (lv_at hl 1 rfl) ?_
        refine va_iald hx hb hK hP 2 0 rfl rfl hs d_so_forward_57 ?_
        refine lv_if_le (tgt := 83) hx hb d_so_forward_58 (by decide) (fun c4 => ?_) (fun c4 => ?_)
        · have hE : f_so_forward v_eg v_hi v_pe v_wa v_se p0 = (v_pe, v_wa) := by
            rw [hF]; unfold f_so_forward; rw [if_pos c1, if_pos c2, if_neg c3, if_pos c4]
          rw [hE]
          exact rt_v hx hb hr hlocks hP hD hK hS [0, 1, 2, 3] rfl (by decide) rfl d_so_forward_83
        · refine lv_aload_n hx hb d_so_forward_61 rfl (lv_at hl 0 rfl) ?_
          refine va_get (D := D) (ci := 4) (v := .ref a2) (C := R_so) (T := T_so) (N := 6) hx hb hts iu_so hown hK hP 0 rfl rfl 2 (by decide) (hts _ m_42) (fun _ h9 => h9) rfl d_so_forward_62 ?_
          refine lv_iload_n hx hb d_so_forward_65 rfl (lv_at hl 1 rfl) ?_
          refine lv_dup2_11 hx hb d_so_forward_66 rfl rfl ?_
          refine va_iald hx hb hK hP 2 0 rfl rfl hs d_so_forward_67 ?_
          refine lv_iconst (v := (1 : Int32)) hx hb d_so_forward_68 (by decide) ?_
          refine lv_isub hx hb d_so_forward_69 ?_
          refine va_iast hx hb hK hP hD hS 2 0 rfl rfl hs d_so_forward_70 (fun H locs hP hD hS => ?_)
          have hP : va_P D cls [(aS, .inr (4, [.int v_eg, .ref a1, .ref a2, .ref a3, .int v_hi, .int v_pe])), (a1, .inl (k.1, 16, .inl v_pr)), (a2, .inl (k.1, 16, .inl (upd v_wa (p0 : Int32).toNatClampNeg ((v_wa (p0 : Int32).toNatClampNeg) - (1 : Int32))))), (a3, .inl (k.1, 16, .inl v_se))] H := hP
          have hD : va_D A [(aS, .inr (4, [.int v_eg, .ref a1, .ref a2, .ref a3, .int v_hi, .int v_pe])), (a1, .inl (k.1, 16, .inl v_pr)), (a2, .inl (k.1, 16, .inl (upd v_wa (p0 : Int32).toNatClampNeg ((v_wa (p0 : Int32).toNatClampNeg) - (1 : Int32))))), (a3, .inl (k.1, 16, .inl v_se))] := hD
          refine lv_aload_n hx hb d_so_forward_71 rfl (lv_at hl 0 rfl) ?_
          refine lv_dup hx hb d_so_forward_72 rfl ?_
          refine va_get (D := D) (ci := 4) (v := .int v_pe) (C := R_so) (T := T_so) (N := 6) hx hb hts iu_so hown hK hP 0 rfl rfl 5 (by decide) (hts _ m_48) (fun _ h9 => h9) rfl d_so_forward_73 ?_
          refine lv_iconst (v := (1 : Int32)) hx hb d_so_forward_76 (by decide) ?_
          refine lv_iload_n hx hb d_so_forward_77 rfl (lv_at hl 1 rfl) ?_
          refine lv_ishl hx hb d_so_forward_78 ?_
          refine lv_ior hx hb d_so_forward_79 ?_
          refine va_put (D := D) (ci := 4) (v := .int (v_pe ||| ((1 : Int32) <<< (p0 &&& 31)))) (ty := .int) (C := R_so) (T := T_so) (N := 6) hx hb hts iu_so t_so tk_so nm_so hown hK hP hD hS 0 rfl rfl 5 (by decide) (hts _ m_48) (fun _ h9 => h9) rfl (by decide +kernel) rfl rfl (Nat.le_of_ble_eq_true rfl) d_so_forward_80 (fun H locs hP hD hS => ?_)
          have hP : va_P D cls [(aS, .inr (4, [.int v_eg, .ref a1, .ref a2, .ref a3, .int v_hi, .int (v_pe ||| ((1 : Int32) <<< (p0 &&& 31)))])), (a1, .inl (k.1, 16, .inl v_pr)), (a2, .inl (k.1, 16, .inl (upd v_wa (p0 : Int32).toNatClampNeg ((v_wa (p0 : Int32).toNatClampNeg) - (1 : Int32))))), (a3, .inl (k.1, 16, .inl v_se))] H := hP
          have hD : va_D A [(aS, .inr (4, [.int v_eg, .ref a1, .ref a2, .ref a3, .int v_hi, .int (v_pe ||| ((1 : Int32) <<< (p0 &&& 31)))])), (a1, .inl (k.1, 16, .inl v_pr)), (a2, .inl (k.1, 16, .inl (upd v_wa (p0 : Int32).toNatClampNeg ((v_wa (p0 : Int32).toNatClampNeg) - (1 : Int32))))), (a3, .inl (k.1, 16, .inl v_se))] := hD
          have hE : f_so_forward v_eg v_hi v_pe v_wa v_se p0 = (v_pe ||| ((1 : Int32) <<< (p0 &&& 31)), upd v_wa (p0 : Int32).toNatClampNeg ((v_wa (p0 : Int32).toNatClampNeg) - (1 : Int32))) := by
            rw [hF]; unfold f_so_forward; rw [if_pos c1, if_pos c2, if_neg c3, if_neg c4]
          rw [hE]
          exact rt_v hx hb hr hlocks hP hD hK hS [0, 1, 2, 3] rfl (by decide) rfl d_so_forward_83
      · refine lv_aload_n hx hb d_so_forward_32 rfl (lv_at hl 0 rfl) ?_
        refine lv_dup hx hb d_so_forward_33 rfl ?_
        refine va_get (D := D) (ci := 4) (v := .int v_pe) (C := R_so) (T := T_so) (N := 6) hx hb hts iu_so hown hK hP 0 rfl rfl 5 (by decide) (hts _ m_48) (fun _ h9 => h9) rfl d_so_forward_34 ?_
        refine lv_aload_n hx hb d_so_forward_37 rfl (lv_at hl 0 rfl) ?_
        refine va_get (D := D) (ci := 4) (v := .int v_hi) (C := R_so) (T := T_so) (N := 6) hx hb hts iu_so hown hK hP 0 rfl rfl 4 (by decide) (hts _ m_46) (fun _ h9 => h9) rfl d_so_forward_38 ?_
        refine lv_iconst (v := (1 : Int32)) hx hb d_so_forward_41 (by decide) ?_
        refine lv_iload_n hx hb d_so_forward_42 rfl (lv_at hl 1 rfl) ?_
        refine lv_ishl hx hb d_so_forward_43 ?_
        refine lv_iand hx hb d_so_forward_44 ?_
        refine lv_ior hx hb d_so_forward_45 ?_
        refine va_put (D := D) (ci := 4) (v := .int (v_pe ||| (v_hi &&& ((1 : Int32) <<< (p0 &&& 31))))) (ty := .int) (C := R_so) (T := T_so) (N := 6) hx hb hts iu_so t_so tk_so nm_so hown hK hP hD hS 0 rfl rfl 5 (by decide) (hts _ m_48) (fun _ h9 => h9) rfl (by decide +kernel) rfl rfl (Nat.le_of_ble_eq_true rfl) d_so_forward_46 (fun H locs hP hD hS => ?_)
        have hP : va_P D cls [(aS, .inr (4, [.int v_eg, .ref a1, .ref a2, .ref a3, .int v_hi, .int (v_pe ||| (v_hi &&& ((1 : Int32) <<< (p0 &&& 31))))])), (a1, .inl (k.1, 16, .inl v_pr)), (a2, .inl (k.1, 16, .inl v_wa)), (a3, .inl (k.1, 16, .inl v_se))] H := hP
        have hD : va_D A [(aS, .inr (4, [.int v_eg, .ref a1, .ref a2, .ref a3, .int v_hi, .int (v_pe ||| (v_hi &&& ((1 : Int32) <<< (p0 &&& 31))))])), (a1, .inl (k.1, 16, .inl v_pr)), (a2, .inl (k.1, 16, .inl v_wa)), (a3, .inl (k.1, 16, .inl v_se))] := hD
        refine lv_goto (tgt := 83) hx hb d_so_forward_49 (by decide) ?_
        have hE : f_so_forward v_eg v_hi v_pe v_wa v_se p0 = (v_pe ||| (v_hi &&& ((1 : Int32) <<< (p0 &&& 31))), v_wa) := by
          rw [hF]; unfold f_so_forward; rw [if_pos c1, if_pos c2, if_pos c3]
        rw [hE]
        exact rt_v hx hb hr hlocks hP hD hK hS [0, 1, 2, 3] rfl (by decide) rfl d_so_forward_83
    · have hE : f_so_forward v_eg v_hi v_pe v_wa v_se p0 = (v_pe, v_wa) := by
        rw [hF]; unfold f_so_forward; rw [if_pos c1, if_neg c2]
      rw [hE]
      exact rt_v hx hb hr hlocks hP hD hK hS [0, 1, 2, 3] rfl (by decide) rfl d_so_forward_20
def f_so_release (v_eg : Int32) (v_hi : Int32) (v_pe : Int32) (v_wa : (Nat → Int32)) (v_se : (Nat → Int32)) (p0 : Int32) : Int32 × (Nat → Int32) × (Nat → Int32) := (if (v_se (p0 : Int32).toNatClampNeg) = 0 then (v_pe, v_wa, v_se) else ((f_so_forward v_eg v_hi v_pe v_wa (upd v_se (p0 : Int32).toNatClampNeg (0 : Int32)) p0).1, (f_so_forward v_eg v_hi v_pe v_wa (upd v_se (p0 : Int32).toNatClampNeg (0 : Int32)) p0).2, upd v_se (p0 : Int32).toNatClampNeg (0 : Int32)))
set_option maxHeartbeats 4000000 in
set_option maxRecDepth 100000 in
theorem c_so_release (l : Launch) (D : va_G) (k : k3) (aS : Nat) (a1 : Nat) (a2 : Nat) (a3 : Nat) (sz : Nat) (v_eg : Int32) (v_hi : Int32) (v_pe : Int32) (v_pr : (Nat → Int32)) (v_wa : (Nat → Int32)) (v_se : (Nat → Int32)) (p0 : Int32) (hs : vp_in p0 16) : Met l y_so_release (Cond.code y_so_release b_so_release 2 none :: uW) ({ frames := 2, cells := 0, slots := 0, locals := 42 }) (va_Pc [.ref aS, .int p0] (pr_ D k sz [(aS, .inr (4, [.int v_eg, .ref a1, .ref a2, .ref a3, .int v_hi, .int v_pe])), (a1, .inl (k.1, 16, .inl v_pr)), (a2, .inl (k.1, 16, .inl v_wa)), (a3, .inl (k.1, 16, .inl v_se))])) (va_Qv (fun (_ : Unit) => True) (fun _ t => po_ D k (va_A [(aS, .inr (4, [.int v_eg, .ref a1, .ref a2, .ref a3, .int v_hi, .int v_pe])), (a1, .inl (k.1, 16, .inl v_pr)), (a2, .inl (k.1, 16, .inl v_wa)), (a3, .inl (k.1, 16, .inl v_se))] sz) [(aS, .inr (4, [.int v_eg, .ref a1, .ref a2, .ref a3, .int v_hi, .int ((f_so_release v_eg v_hi v_pe v_wa v_se p0).1)])), (a1, .inl (k.1, 16, .inl v_pr)), (a2, .inl (k.1, 16, .inl ((f_so_release v_eg v_hi v_pe v_wa v_se p0).2.1))), (a3, .inl (k.1, 16, .inl ((f_so_release v_eg v_hi v_pe v_wa v_se p0).2.2)))] t) (va_A [(aS, .inr (4, [.int v_eg, .ref a1, .ref a2, .ref a3, .int v_hi, .int v_pe])), (a1, .inl (k.1, 16, .inl v_pr)), (a2, .inl (k.1, 16, .inl v_wa)), (a3, .inl (k.1, 16, .inl v_se))] sz)) 0 0 (va_A [(aS, .inr (4, [.int v_eg, .ref a1, .ref a2, .ref a3, .int v_hi, .int v_pe])), (a1, .inl (k.1, 16, .inl v_pr)), (a2, .inl (k.1, 16, .inl v_wa)), (a3, .inl (k.1, 16, .inl v_se))] sz) := by
  refine en_ (by decide) ?_
  intro p e s m below meth c hsz hx hb hr hml hown hts hlocks hin hP hK hD hN hV
  subst hsz
  generalize hAe : va_A [(aS, .inr (4, [.int v_eg, .ref a1, .ref a2, .ref a3, .int v_hi, .int v_pe])), (a1, .inl (k.1, 16, .inl v_pr)), (a2, .inl (k.1, 16, .inl v_wa)), (a3, .inl (k.1, 16, .inl v_se))] s.heap.size = A at hD hV ⊢
  have hA : ∀ q : Nat, s.heap.size ≤ q → A q := fun q h => by rw [← hAe]; exact Or.inr h
  have hS : va_S A s.heap s.heap [] := va_S.rf
  have hF : f_so_release v_eg v_hi v_pe v_wa v_se p0 = f_so_release v_eg v_hi v_pe v_wa v_se p0 := rfl
  have hl := lv_entry ([.ref aS, .int p0]) (n := 2) (Nat.le_of_ble_eq_true rfl)
  rw [lg_entry_eq]
  generalize (lg_sl ([.ref aS, .int p0]) ++ List.replicate (2 - (lg_sl ([.ref aS, .int p0])).length) Slot.unset).toArray = ls at hl ⊢
  have hl : lv_has ls 2 [(0, .ref aS), (1, .int p0)] := hl
  obtain ⟨H, hH⟩ : ∃ z, z = s.heap := ⟨_, rfl⟩
  have hP : va_P D cls [(aS, .inr (4, [.int v_eg, .ref a1, .ref a2, .ref a3, .int v_hi, .int v_pe])), (a1, .inl (k.1, 16, .inl v_pr)), (a2, .inl (k.1, 16, .inl v_wa)), (a3, .inl (k.1, 16, .inl v_se))] H := by rw [hH]; exact hP
  have hS : va_S A s.heap H [] := by rw [hH]; exact hS
  refine wH_ hH ?_
  refine lv_aload_n hx hb d_so_release_0 rfl (lv_at hl 0 rfl) ?_
  refine va_get (D := D) (ci := 4) (v := .ref a3) (C := R_so) (T := T_so) (N := 6) hx hb hts iu_so hown hK hP 0 rfl rfl 3 (by decide) (hts _ m_44) (fun _ h9 => h9) rfl d_so_release_1 ?_
  refine lv_iload_n hx hb d_so_release_4 rfl (lv_at hl 1 rfl) ?_
  refine va_iald hx hb hK hP 3 0 rfl rfl hs d_so_release_5 ?_
  refine lv_if_eq (tgt := 21) hx hb d_so_release_6 (by decide) (fun c1 => ?_) (fun c1 => ?_)
  · have hE : f_so_release v_eg v_hi v_pe v_wa v_se p0 = (v_pe, v_wa, v_se) := by
      rw [hF]; unfold f_so_release; rw [if_pos c1]
    rw [hE]
    exact rt_v hx hb hr hlocks hP hD hK hS [0, 1, 2, 3] rfl (by decide) rfl d_so_release_21
  · refine lv_aload_n hx hb d_so_release_9 rfl (lv_at hl 0 rfl) ?_
    refine va_get (D := D) (ci := 4) (v := .ref a3) (C := R_so) (T := T_so) (N := 6) hx hb hts iu_so hown hK hP 0 rfl rfl 3 (by decide) (hts _ m_44) (fun _ h9 => h9) rfl d_so_release_10 ?_
    refine lv_iload_n hx hb d_so_release_13 rfl (lv_at hl 1 rfl) ?_
    refine lv_iconst (v := (0 : Int32)) hx hb d_so_release_14 (by decide) ?_
    refine va_iast hx hb hK hP hD hS 3 0 rfl rfl hs d_so_release_15 (fun H locs hP hD hS => ?_)
    have hP : va_P D cls [(aS, .inr (4, [.int v_eg, .ref a1, .ref a2, .ref a3, .int v_hi, .int v_pe])), (a1, .inl (k.1, 16, .inl v_pr)), (a2, .inl (k.1, 16, .inl v_wa)), (a3, .inl (k.1, 16, .inl (upd v_se (p0 : Int32).toNatClampNeg (0 : Int32))))] H := hP
    have hD : va_D A [(aS, .inr (4, [.int v_eg, .ref a1, .ref a2, .ref a3, .int v_hi, .int v_pe])), (a1, .inl (k.1, 16, .inl v_pr)), (a2, .inl (k.1, 16, .inl v_wa)), (a3, .inl (k.1, 16, .inl (upd v_se (p0 : Int32).toNatClampNeg (0 : Int32))))] := hD
    refine lv_aload_n hx hb d_so_release_16 rfl (lv_at hl 0 rfl) ?_
    refine lv_iload_n hx hb d_so_release_17 rfl (lv_at hl 1 rfl) ?_
    refine fn_v (rn_V (own := "TrapHart$Sources") (index := 33) (n := 1) (C := "TrapHart$Sources") (As := [.int p0]) (rest := []) (isC := [0, 1, 2, 3]) (ws := [(aS, .inr (4, [.int v_eg, .ref a1, .ref a2, .ref a3, .int v_hi, .int v_pe])), (a1, .inl (k.1, 16, .inl v_pr)), (a2, .inl (k.1, 16, .inl v_wa)), (a3, .inl (k.1, 16, .inl (upd v_se (p0 : Int32).toNatClampNeg (0 : Int32))))]) (wc := [(aS, .inr (4, [.int v_eg, .ref a1, .ref a2, .ref a3, .int v_hi, .int v_pe])), (a1, .inl (k.1, 16, .inl v_pr)), (a2, .inl (k.1, 16, .inl v_wa)), (a3, .inl (k.1, 16, .inl (upd v_se (p0 : Int32).toNatClampNeg (0 : Int32))))]) ⟨hx, hb, hml, hown, hts⟩ (c_so_forward l D k aS a1 a2 a3 H.size v_eg v_hi v_pe v_pr v_wa (upd v_se (p0 : Int32).toNatClampNeg (0 : Int32)) p0 hs) (gd_V uW_id m_212 m_214 ms_1 m_3 m_215) rfl rfl (by decide +kernel) ⟨Nat.le_of_ble_eq_true rfl, Nat.le_of_ble_eq_true rfl⟩ hP hK hD hN hV hS hA rfl (by decide) rfl rfl rfl rfl rfl hl.1 rfl (lv_room (Nat.le_of_ble_eq_true rfl)) d_so_release_18 ⟨Nat.le_of_ble_eq_true rfl, Nat.le_of_ble_eq_true rfl⟩) hP hD hS hA [0, 1, 2, 3] [] (wr := []) rfl rfl (by decide) (by decide) (fun H locs hP hD hS => ?_)
    have hP : va_P D cls [(aS, .inr (4, [.int v_eg, .ref a1, .ref a2, .ref a3, .int v_hi, .int ((f_so_forward v_eg v_hi v_pe v_wa (upd v_se (p0 : Int32).toNatClampNeg (0 : Int32)) p0).1)])), (a1, .inl (k.1, 16, .inl v_pr)), (a2, .inl (k.1, 16, .inl ((f_so_forward v_eg v_hi v_pe v_wa (upd v_se (p0 : Int32).toNatClampNeg (0 : Int32)) p0).2))), (a3, .inl (k.1, 16, .inl (upd v_se (p0 : Int32).toNatClampNeg (0 : Int32))))] H := hP
    have hD : va_D A [(aS, .inr (4, [.int v_eg, .ref a1, .ref a2, .ref a3, .int v_hi, .int ((f_so_forward v_eg v_hi v_pe v_wa (upd v_se (p0 : Int32).toNatClampNeg (0 : Int32)) p0).1)])), (a1, .inl (k.1, 16, .inl v_pr)), (a2, .inl (k.1, 16, .inl ((f_so_forward v_eg v_hi v_pe v_wa (upd v_se (p0 : Int32).toNatClampNeg (0 : Int32)) p0).2))), (a3, .inl (k.1, 16, .inl (upd v_se (p0 : Int32).toNatClampNeg (0 : Int32))))] := hD
    have hE : f_so_release v_eg v_hi v_pe v_wa v_se p0 = ((f_so_forward v_eg v_hi v_pe v_wa (upd v_se (p0 : Int32).toNatClampNeg (0 : Int32)) p0).1, (f_so_forward v_eg v_hi v_pe v_wa (upd v_se (p0 : Int32).toNatClampNeg (0 : Int32)) p0).2, upd v_se (p0 : Int32).toNatClampNeg (0 : Int32)) := by
      rw [hF]; unfold f_so_release; rw [if_neg c1]
    rw [hE]
    exact rt_v hx hb hr hlocks hP hD hK hS [0, 1, 2, 3] rfl (by decide) rfl d_so_release_21
