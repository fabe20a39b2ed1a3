def f_so_drive_L24 (v_eg : Int32) (v_hi : Int32) (v_pe : Int32) (v_wa : (Nat → Int32)) (v_se : (Nat → Int32)) (p0 : Int32) : Nat → Nat → Int32 → (Nat → Int32) → Int32 × Int32 × (Nat → Int32)
  | 0, i, z24_0, z24_1 => (p0 &&& (65534 : Int32), z24_0, z24_1)
  | n + 1, i, z24_0, z24_1 => (if (f_th_hasBit ((p0 &&& (v_hi ^^^ (-1 : Int32))) &&& v_eg) (nI i)) = 0 then (f_so_drive_L24 v_eg v_hi v_pe v_wa v_se p0 n (i + 1) ((f_so_forward v_eg (p0 &&& (65534 : Int32)) z24_0 z24_1 v_se (nI i)).1) ((f_so_forward v_eg (p0 &&& (65534 : Int32)) z24_0 z24_1 v_se (nI i)).2)) else (if (15 : Int32) ≤ (z24_1 (nI i : Int32).toNatClampNeg) then (f_so_drive_L24 v_eg v_hi v_pe v_wa v_se p0 n (i + 1) ((f_so_forward v_eg (p0 &&& (65534 : Int32)) z24_0 z24_1 v_se (nI i)).1) ((f_so_forward v_eg (p0 &&& (65534 : Int32)) z24_0 z24_1 v_se (nI i)).2)) else (f_so_drive_L24 v_eg v_hi v_pe v_wa v_se p0 n (i + 1) ((f_so_forward v_eg (p0 &&& (65534 : Int32)) z24_0 (upd z24_1 (nI i : Int32).toNatClampNeg ((z24_1 (nI i : Int32).toNatClampNeg) + (1 : Int32))) v_se (nI i)).1) ((f_so_forward v_eg (p0 &&& (65534 : Int32)) z24_0 (upd z24_1 (nI i : Int32).toNatClampNeg ((z24_1 (nI i : Int32).toNatClampNeg) + (1 : Int32))) v_se (nI i)).2))))
def f_so_drive (v_eg : Int32) (v_hi : Int32) (v_pe : Int32) (v_wa : (Nat → Int32)) (v_se : (Nat → Int32)) (p0 : Int32) : Int32 × Int32 × (Nat → Int32) := (f_so_drive_L24 v_eg v_hi v_pe v_wa v_se p0 15 1 v_pe v_wa)
set_option maxHeartbeats 4000000 in
set_option maxRecDepth 100000 in
theorem c_so_drive (l : Launch) (D : va_G) (k : k3) (aS : Nat) (a1 : Nat) (a2 : Nat) (a3 : Nat) (sz : Nat) (v_eg : Int32) (v_hi : Int32) (v_pe : Int32) (v_pr : (Nat → Int32)) (v_wa : (Nat → Int32)) (v_se : (Nat → Int32)) (p0 : Int32) : Met l y_so_drive (Cond.code y_so_drive b_so_drive 4 none :: uW) ({ frames := 2, cells := 0, slots := 0, locals := 42 }) (va_Pc [.ref aS, .int p0] (pr_ D k sz [(aS, .inr (4, [.int v_eg, .ref a1, .ref a2, .ref a3, .int v_hi, .int v_pe])), (a1, .inl (k.1, 16, .inl v_pr)), (a2, .inl (k.1, 16, .inl v_wa)), (a3, .inl (k.1, 16, .inl v_se))])) (va_Qv (fun (_ : Unit) => True) (fun _ t => po_ D k (va_A [(aS, .inr (4, [.int v_eg, .ref a1, .ref a2, .ref a3, .int v_hi, .int v_pe])), (a1, .inl (k.1, 16, .inl v_pr)), (a2, .inl (k.1, 16, .inl v_wa)), (a3, .inl (k.1, 16, .inl v_se))] sz) [(aS, .inr (4, [.int v_eg, .ref a1, .ref a2, .ref a3, .int ((f_so_drive v_eg v_hi v_pe v_wa v_se p0).1), .int ((f_so_drive v_eg v_hi v_pe v_wa v_se p0).2.1)])), (a1, .inl (k.1, 16, .inl v_pr)), (a2, .inl (k.1, 16, .inl ((f_so_drive v_eg v_hi v_pe v_wa v_se p0).2.2))), (a3, .inl (k.1, 16, .inl v_se))] t) (va_A [(aS, .inr (4, [.int v_eg, .ref a1, .ref a2, .ref a3, .int v_hi, .int v_pe])), (a1, .inl (k.1, 16, .inl v_pr)), (a2, .inl (k.1, 16, .inl v_wa)), (a3, .inl (k.1, 16, .inl v_se))] sz)) 0 0 (va_A [(aS, .inr (4, [.int v_eg, .ref a1, .ref a2, .ref a3, .int v_hi, .int v_pe])), (a1, .inl (k.1, 16, .inl v_pr)), (a2, .inl (k.1, 16, .inl v_wa)), (a3, .inl (k.1, 16, .inl v_se))] sz) := by
  refine en_ (by decide) ?_
  intro p e s m below meth c hsz hx hb hr hml hown hts hlocks hin hP hK hD hN hV
  subst hsz
  generalize hAe : va_A [(aS, .inr (4, [.int v_eg, .ref a1, .ref a2, .ref a3, .int v_hi, .int v_pe])), (a1, .inl (k.1, 16, .inl v_pr)), (a2, .inl (k.1, 16, .inl v_wa)), (a3, .inl (k.1, 16, .inl v_se))] s.heap.size = A at hD hV ⊢
  have hA : ∀ q : Nat, s.heap.size ≤ q → A q := fun q h => by rw [← hAe]; exact Or.inr h
  have hS : va_S A s.heap s.heap [] := va_S.rf
  have hF : f_so_drive v_eg v_hi v_pe v_wa v_se p0 = f_so_drive v_eg v_hi v_pe v_wa v_se p0 := rfl
  have hl := lv_entry ([.ref aS, .int p0]) (n := 4) (Nat.le_of_ble_eq_true rfl)
  rw [lg_entry_eq]
  generalize (lg_sl ([.ref aS, .int p0]) ++ List.replicate (4 - (lg_sl ([.ref aS, .int p0])).length) Slot.unset).toArray = ls at hl ⊢
  have hl : lv_has ls 4 [(0, .ref aS), (1, .int p0)] := hl
  obtain ⟨H, hH⟩ : ∃ z, z = s.heap := ⟨_, rfl⟩
  have hP : va_P D cls [(aS, .inr (4, [.int v_eg, .ref a1, .ref a2, .ref a3, .int v_hi, .int v_pe])), (a1, .inl (k.1, 16, .inl v_pr)), (a2, .inl (k.1, 16, .inl v_wa)), (a3, .inl (k.1, 16, .inl v_se))] H := by rw [hH]; exact hP
  have hS : va_S A s.heap H [] := by rw [hH]; exact hS
  refine wH_ hH ?_
  refine lv_iload_n hx hb d_so_drive_0 rfl (lv_at hl 1 rfl) ?_
  refine lv_aload_n hx hb d_so_drive_1 rfl (lv_at hl 0 rfl) ?_
  refine va_get (D := D) (ci := 4) (v := .int v_hi) (C := R_so) (T := T_so) (N := 6) hx hb hts iu_so hown hK hP 0 rfl rfl 4 (by decide) (hts _ m_46) (fun _ h9 => h9) rfl d_so_drive_2 ?_
  refine lv_iconst (v := (-1 : Int32)) hx hb d_so_drive_5 (by decide) ?_
  refine lv_ixor hx hb d_so_drive_6 ?_
  refine lv_iand hx hb d_so_drive_7 ?_
  refine lv_aload_n hx hb d_so_drive_8 rfl (lv_at hl 0 rfl) ?_
  refine va_get (D := D) (ci := 4) (v := .int v_eg) (C := R_so) (T := T_so) (N := 6) hx hb hts iu_so hown hK hP 0 rfl rfl 0 (by decide) (hts _ m_39) (fun _ h9 => h9) rfl d_so_drive_9 ?_
  refine lv_iand hx hb d_so_drive_12 ?_
  refine lv_istore_n (lv' := [(2, .int ((p0 &&& (v_hi ^^^ (-1 : Int32))) &&& v_eg)), (0, .ref aS), (1, .int p0)]) hx hb d_so_drive_13 rfl hl (by decide) rfl (fun ls hl => ?_)
  refine lv_aload_n hx hb d_so_drive_14 rfl (lv_at hl 1 rfl) ?_
  refine lv_iload_n hx hb d_so_drive_15 rfl (lv_at hl 2 rfl) ?_
  refine lv_ldc (v := (65534 : Int32)) hx hb hown (hts _ m_38) d_so_drive_16 ?_
  refine lv_iand hx hb d_so_drive_18 ?_
  refine va_put (D := D) (ci := 4) (v := .int (p0 &&& (65534 : Int32))) (ty := .int) (C := R_so) (T := T_so) (N := 6) hx hb hts iu_so t_so tk_so nm_so hown hK hP hD hS 0 rfl rfl 4 (by decide) (hts _ m_46) (fun _ h9 => h9) rfl (by decide +kernel) rfl rfl (Nat.le_of_ble_eq_true rfl) d_so_drive_19 (fun H locs hP hD hS => ?_)
  have hP : va_P D cls [(aS, .inr (4, [.int v_eg, .ref a1, .ref a2, .ref a3, .int (p0 &&& (65534 : Int32)), .int v_pe])), (a1, .inl (k.1, 16, .inl v_pr)), (a2, .inl (k.1, 16, .inl v_wa)), (a3, .inl (k.1, 16, .inl v_se))] H := hP
  have hD : va_D A [(aS, .inr (4, [.int v_eg, .ref a1, .ref a2, .ref a3, .int (p0 &&& (65534 : Int32)), .int v_pe])), (a1, .inl (k.1, 16, .inl v_pr)), (a2, .inl (k.1, 16, .inl v_wa)), (a3, .inl (k.1, 16, .inl v_se))] := hD
  refine lv_iconst (v := (1 : Int32)) hx hb d_so_drive_22 (by decide) ?_
  refine lv_istore_n (lv' := [(3, .int (1 : Int32)), (2, .int ((p0 &&& (v_hi ^^^ (-1 : Int32))) &&& v_eg)), (0, .ref aS), (1, .int p0)]) hx hb d_so_drive_23 rfl hl (by decide) rfl (fun ls hl => ?_)
  refine lp_ (X := Int32 × (Nat → Int32)) (A := A) (D := D) (H0 := s.heap) (fun x9 : Int32 × (Nat → Int32) => [(aS, .inr (4, [.int v_eg, .ref a1, .ref a2, .ref a3, .int (p0 &&& (65534 : Int32)), .int x9.1])), (a1, .inl (k.1, 16, .inl v_pr)), (a2, .inl (k.1, 16, .inl x9.2)), (a3, .inl (k.1, 16, .inl v_se))]) (fun n9 i9 (x9 : Int32 × (Nat → Int32)) => [(3, .int (nI i9)), (2, .int ((p0 &&& (v_hi ^^^ (-1 : Int32))) &&& v_eg)), (0, .ref aS), (1, .int p0)]) (fun n9 i9 (x9 : Int32 × (Nat → Int32)) => f_so_drive v_eg v_hi v_pe v_wa v_se p0 = f_so_drive_L24 v_eg v_hi v_pe v_wa v_se p0 n9 i9 x9.1 x9.2) 24 4 16 (fun i x9 H locs ls hi hF hP hD hS hl => ?_) (fun n i x9 H locs ls hi hF hP hD hS hl ih => ?_) 15 1 (v_pe, v_wa) _ _ _ rfl (by rw [hF]; unfold f_so_drive; rfl) (hP.sub [0, 1, 2, 3] rfl) (hD.sub [0, 1, 2, 3] (by decide) rfl) hS (lv_sub hl [0, 1, 2, 3] rfl)
  · obtain ⟨z24_0, z24_1⟩ := x9
    have hF : f_so_drive v_eg v_hi v_pe v_wa v_se p0 = f_so_drive_L24 v_eg v_hi v_pe v_wa v_se p0 0 i z24_0 z24_1 := hF
    have hP : va_P D cls [(aS, .inr (4, [.int v_eg, .ref a1, .ref a2, .ref a3, .int (p0 &&& (65534 : Int32)), .int z24_0])), (a1, .inl (k.1, 16, .inl v_pr)), (a2, .inl (k.1, 16, .inl z24_1)), (a3, .inl (k.1, 16, .inl v_se))] H := hP
    have hD : va_D A [(aS, .inr (4, [.int v_eg, .ref a1, .ref a2, .ref a3, .int (p0 &&& (65534 : Int32)), .int z24_0])), (a1, .inl (k.1, 16, .inl v_pr)), (a2, .inl (k.1, 16, .inl z24_1)), (a3, .inl (k.1, 16, .inl v_se))] := hD
    have hl : lv_has ls 4 [(3, .int (nI i)), (2, .int ((p0 &&& (v_hi ^^^ (-1 : Int32))) &&& v_eg)), (0, .ref aS), (1, .int p0)] := hl
    refine lv_iload_n hx hb d_so_drive_24 rfl (lv_at hl 0 rfl) ?_
    refine lv_bipush (v := (15 : Int32)) hx hb d_so_drive_25 (by decide) ?_
    refine lv_icmp_gt (tgt := 70) hx hb d_so_drive_27 (by decide) (fun c9 => ?_) (fun c9 => absurd (by subst hi; decide) c9)
    have hE : f_so_drive v_eg v_hi v_pe v_wa v_se p0 = (p0 &&& (65534 : Int32), z24_0, z24_1) := by
      rw [hF, f_so_drive_L24]
    rw [hE]
    exact rt_v hx hb hr hlocks hP hD hK hS [0, 1, 2, 3] rfl (by decide) rfl d_so_drive_70
  · obtain ⟨z24_0, z24_1⟩ := x9
    have hF : f_so_drive v_eg v_hi v_pe v_wa v_se p0 = f_so_drive_L24 v_eg v_hi v_pe v_wa v_se p0 (n + 1) i z24_0 z24_1 := hF
    have hP : va_P D cls [(aS, .inr (4, [.int v_eg, .ref a1, .ref a2, .ref a3, .int (p0 &&& (65534 : Int32)), .int z24_0])), (a1, .inl (k.1, 16, .inl v_pr)), (a2, .inl (k.1, 16, .inl z24_1)), (a3, .inl (k.1, 16, .inl v_se))] H := hP
    have hD : va_D A [(aS, .inr (4, [.int v_eg, .ref a1, .ref a2, .ref a3, .int (p0 &&& (65534 : Int32)), .int z24_0])), (a1, .inl (k.1, 16, .inl v_pr)), (a2, .inl (k.1, 16, .inl z24_1)), (a3, .inl (k.1, 16, .inl v_se))] := hD
    have hl : lv_has ls 4 [(3, .int (nI i)), (2, .int ((p0 &&& (v_hi ^^^ (-1 : Int32))) &&& v_eg)), (0, .ref aS), (1, .int p0)] := hl
    refine lv_iload_n hx hb d_so_drive_24 rfl (lv_at hl 0 rfl) ?_
    refine lv_bipush (v := (15 : Int32)) hx hb d_so_drive_25 (by decide) ?_
    refine lv_icmp_gt (tgt := 70) hx hb d_so_drive_27 (by decide) (fun c9 => absurd c9 (nI_nlt (a := 15) (by omega) (by decide))) (fun c9 => ?_)
    refine lv_iload_n hx hb d_so_drive_30 rfl (lv_at hl 1 rfl) ?_
    refine lv_iload_n hx hb d_so_drive_31 rfl (lv_at hl 0 rfl) ?_
    refine fn_i (rn_SN (own := "TrapHart$Sources") (index := 27) (n := 2) (As := [.int ((p0 &&& (v_hi ^^^ (-1 : Int32))) &&& v_eg), .int (nI i)]) (rest := []) (isC := []) (ws := [(aS, .inr (4, [.int v_eg, .ref a1, .ref a2, .ref a3, .int (p0 &&& (65534 : Int32)), .int z24_0])), (a1, .inl (k.1, 16, .inl v_pr)), (a2, .inl (k.1, 16, .inl z24_1)), (a3, .inl (k.1, 16, .inl v_se))]) (wc := []) ⟨hx, hb, hml, hown, hts⟩ (c_th_hasBit l D k H.size ((p0 &&& (v_hi ^^^ (-1 : Int32))) &&& v_eg) (nI i)) n_209 m_210 m_1 m_211 rfl rfl (by decide +kernel) ⟨Nat.le_of_ble_eq_true rfl, Nat.le_of_ble_eq_true rfl⟩ hP hK hD hN hV hS hA rfl (by decide) rfl rfl hl.1 rfl (lv_room (Nat.le_of_ble_eq_true rfl)) d_so_drive_32 ⟨Nat.le_of_ble_eq_true rfl, Nat.le_of_ble_eq_true rfl⟩) hP hD hS hA [] [0, 1, 2, 3] (wr := [(aS, .inr (4, [.int v_eg, .ref a1, .ref a2, .ref a3, .int (p0 &&& (65534 : Int32)), .int z24_0])), (a1, .inl (k.1, 16, .inl v_pr)), (a2, .inl (k.1, 16, .inl z24_1)), (a3, .inl (k.1, 16, .inl v_se))]) rfl rfl (by decide) (by decide) (fun H locs hP hD hS => ?_)
    have hP : va_P D cls [(aS, .inr (4, [.int v_eg, .ref a1, .ref a2, .ref a3, .int (p0 &&& (65534 : Int32)), .int z24_0])), (a1, .inl (k.1, 16, .inl v_pr)), (a2, .inl (k.1, 16, .inl z24_1)), (a3, .inl (k.1, 16, .inl v_se))] H := hP
    have hD : va_D A [(aS, .inr (4, [.int v_eg, .ref a1, .ref a2, .ref a3, .int (p0 &&& (65534 : Int32)), .int z24_0])), (a1, .inl (k.1, 16, .inl v_pr)), (a2, .inl (k.1, 16, .inl z24_1)), (a3, .inl (k.1, 16, .inl v_se))] := hD
    refine lv_if_eq (tgt := 59) hx hb d_so_drive_35 (by decide) (fun c1 => ?_) (fun c1 => ?_)
    · refine lv_aload_n hx hb d_so_drive_59 rfl (lv_at hl 2 rfl) ?_
      refine lv_iload_n hx hb d_so_drive_60 rfl (lv_at hl 0 rfl) ?_
      refine fn_v (rn_V (own := "TrapHart$Sources") (index := 33) (n := 1) (C := "TrapHart$Sources") (As := [.int (nI i)]) (rest := []) (isC := [0, 1, 2, 3]) (ws := [(aS, .inr (4, [.int v_eg, .ref a1, .ref a2, .ref a3, .int (p0 &&& (65534 : Int32)), .int z24_0])), (a1, .inl (k.1, 16, .inl v_pr)), (a2, .inl (k.1, 16, .inl z24_1)), (a3, .inl (k.1, 16, .inl v_se))]) (wc := [(aS, .inr (4, [.int v_eg, .ref a1, .ref a2, .ref a3, .int (p0 &&& (65534 : Int32)), .int z24_0])), (a1, .inl (k.1, 16, .inl v_pr)), (a2, .inl (k.1, 16, .inl z24_1)), (a3, .inl (k.1, 16, .inl v_se))]) ⟨hx, hb, hml, hown, hts⟩ (c_so_forward l D k aS a1 a2 a3 H.size v_eg (p0 &&& (65534 : Int32)) z24_0 v_pr z24_1 v_se (nI i) (vp_in_nI (by omega) (by decide))) (gd_V uW_id m_212 m_214 ms_1 m_3 m_215) rfl rfl (by decide +kernel) ⟨Nat.le_of_ble_eq_true rfl, Nat.le_of_ble_eq_true rfl⟩ hP hK hD hN hV hS hA rfl (by decide) rfl rfl rfl rfl rfl hl.1 rfl (lv_room (Nat.le_of_ble_eq_true rfl)) d_so_drive_61 ⟨Nat.le_of_ble_eq_true rfl, Nat.le_of_ble_eq_true rfl⟩) hP hD hS hA [0, 1, 2, 3] [] (wr := []) rfl rfl (by decide) (by decide) (fun H locs hP hD hS => ?_)
      have hP : va_P D cls [(aS, .inr (4, [.int v_eg, .ref a1, .ref a2, .ref a3, .int (p0 &&& (65534 : Int32)), .int ((f_so_forward v_eg (p0 &&& (65534 : Int32)) z24_0 z24_1 v_se (nI i)).1)])), (a1, .inl (k.1, 16, .inl v_pr)), (a2, .inl (k.1, 16, .inl ((f_so_forward v_eg (p0 &&& (65534 : Int32)) z24_0 z24_1 v_se (nI i)).2))), (a3, .inl (k.1, 16, .inl v_se))] H := hP
      have hD : va_D A [(aS, .inr (4, [.int v_eg, .ref a1, .ref a2, .ref a3, .int (p0 &&& (65534 : Int32)), .int ((f_so_forward v_eg (p0 &&& (65534 : Int32)) z24_0 z24_1 v_se (nI i)).1)])), (a1, .inl (k.1, 16, .inl v_pr)), (a2, .inl (k.1, 16, .inl ((f_so_forward v_eg (p0 &&& (65534 : Int32)) z24_0 z24_1 v_se (nI i)).2))), (a3, .inl (k.1, 16, .inl v_se))] := hD
      refine lv_iinc (v := nI (i + 1)) (lv' := [(3, .int (nI (i + 1))), (2, .int ((p0 &&& (v_hi ^^^ (-1 : Int32))) &&& v_eg)), (0, .ref aS), (1, .int p0)]) hx hb d_so_drive_64 hl (k := 0) rfl (nI_1 i) (by decide) rfl (fun ls hl => ?_)
      refine lv_goto (tgt := 24) hx hb d_so_drive_67 (by decide) ?_
      exact ih ((f_so_forward v_eg (p0 &&& (65534 : Int32)) z24_0 z24_1 v_se (nI i)).1, (f_so_forward v_eg (p0 &&& (65534 : Int32)) z24_0 z24_1 v_se (nI i)).2) _ _ _ (by rw [hF, f_so_drive_L24, if_pos c1]) (hP.sub [0, 1, 2, 3] rfl) (hD.sub [0, 1, 2, 3] (by decide) rfl) hS (lv_sub hl [0, 1, 2, 3] rfl)
    · refine lv_aload_n hx hb d_so_drive_38 rfl (lv_at hl 2 rfl) ?_
      refine va_get (D := D) (ci := 4) (v := .ref a2) (C := R_so) (T := T_so) (N := 6) hx hb hts iu_so hown hK hP 0 rfl rfl 2 (by decide) (hts _ m_42) (fun _ h9 => h9) rfl d_so_drive_39 ?_
      refine lv_iload_n hx hb d_so_drive_42 rfl (lv_at hl 0 rfl) ?_
      refine va_iald hx hb hK hP 2 0 rfl rfl (vp_in_nI (by omega) (by decide)) d_so_drive_43 ?_
      refine lv_bipush (v := (15 : Int32)) hx hb d_so_drive_44 (by decide) ?_
      refine lv_icmp_ge (tgt := 59) hx hb d_so_drive_46 (by decide) (fun c2 => ?_) (fun c2 => ?_)
      · refine lv_aload_n hx hb d_so_drive_59 rfl (lv_at hl 2 rfl) ?_
        refine lv_iload_n hx hb d_so_drive_60 rfl (lv_at hl 0 rfl) ?_
        refine fn_v (rn_V (own := "TrapHart$Sources") (index := 33) (n := 1) (C := "TrapHart$Sources") (As := [.int (nI i)]) (rest := []) (isC := [0, 1, 2, 3]) (ws := [(aS, .inr (4, [.int v_eg, .ref a1, .ref a2, .ref a3, .int (p0 &&& (65534 : Int32)), .int z24_0])), (a1, .inl (k.1, 16, .inl v_pr)), (a2, .inl (k.1, 16, .inl z24_1)), (a3, .inl (k.1, 16, .inl v_se))]) (wc := [(aS, .inr (4, [.int v_eg, .ref a1, .ref a2, .ref a3, .int (p0 &&& (65534 : Int32)), .int z24_0])), (a1, .inl (k.1, 16, .inl v_pr)), (a2, .inl (k.1, 16, .inl z24_1)), (a3, .inl (k.1, 16, .inl v_se))]) ⟨hx, hb, hml, hown, hts⟩ (c_so_forward l D k aS a1 a2 a3 H.size v_eg (p0 &&& (65534 : Int32)) z24_0 v_pr z24_1 v_se (nI i) (vp_in_nI (by omega) (by decide))) (gd_V uW_id m_212 m_214 ms_1 m_3 m_215) rfl rfl (by decide +kernel) ⟨Nat.le_of_ble_eq_true rfl, Nat.le_of_ble_eq_true rfl⟩ hP hK hD hN hV hS hA rfl (by decide) rfl rfl rfl rfl rfl hl.1 rfl (lv_room (Nat.le_of_ble_eq_true rfl)) d_so_drive_61 ⟨Nat.le_of_ble_eq_true rfl, Nat.le_of_ble_eq_true rfl⟩) hP hD hS hA [0, 1, 2, 3] [] (wr := []) rfl rfl (by decide) (by decide) (fun H locs hP hD hS => ?_)
        have hP : va_P D cls [(aS, .inr (4, [.int v_eg, .ref a1, .ref a2, .ref a3, .int (p0 &&& (65534 : Int32)), .int ((f_so_forward v_eg (p0 &&& (65534 : Int32)) z24_0 z24_1 v_se (nI i)).1)])), (a1, .inl (k.1, 16, .inl v_pr)), (a2, .inl (k.1, 16, .inl ((f_so_forward v_eg (p0 &&& (65534 : Int32)) z24_0 z24_1 v_se (nI i)).2))), (a3, .inl (k.1, 16, .inl v_se))] H := hP
        have hD : va_D A [(aS, .inr (4, [.int v_eg, .ref a1, .ref a2, .ref a3, .int (p0 &&& (65534 : Int32)), .int ((f_so_forward v_eg (p0 &&& (65534 : Int32)) z24_0 z24_1 v_se (nI i)).1)])), (a1, .inl (k.1, 16, .inl v_pr)), (a2, .inl (k.1, 16, .inl ((f_so_forward v_eg (p0 &&& (65534 : Int32)) z24_0 z24_1 v_se (nI i)).2))), (a3, .inl (k.1, 16, .inl v_se))] := hD
        refine lv_iinc (v := nI (i + 1)) (lv' := [(3, .int (nI (i + 1))), (2, .int ((p0 &&& (v_hi ^^^ (-1 : Int32))) &&& v_eg)), (0, .ref aS), (1, .int p0)]) hx hb d_so_drive_64 hl (k := 0) rfl (nI_1 i) (by decide) rfl (fun ls hl => ?_)
        refine lv_goto (tgt := 24) hx hb d_so_drive_67 (by decide) ?_
        exact ih ((f_so_forward v_eg (p0 &&& (65534 : Int32)) z24_0 z24_1 v_se (nI i)).1, (f_so_forward v_eg (p0 &&& (65534 : Int32)) z24_0 z24_1 v_se (nI i)).2) _ _ _ (by rw [hF, f_so_drive_L24, if_neg c1, if_pos c2]) (hP.sub [0, 1, 2, 3] rfl) (hD.sub [0, 1, 2, 3] (by decide) rfl) hS (lv_sub hl [0, 1, 2, 3] rfl)
      · refine lv_aload_n hx hb d_so_drive_49 rfl (lv_at hl 2 rfl) ?_
        refine va_get (D := D) (ci := 4) (v := .ref a2) (C := R_so) (T := T_so) (N := 6) hx hb hts iu_so hown hK hP 0 rfl rfl 2 (by decide) (hts _ m_42) (fun _ h9 => h9) rfl d_so_drive_50 ?_
        refine lv_iload_n hx hb d_so_drive_53 rfl (lv_at hl 0 rfl) ?_
        refine lv_dup2_11 hx hb d_so_drive_54 rfl rfl ?_
        refine va_iald hx hb hK hP 2 0 rfl rfl (vp_in_nI (by omega) (by decide)) d_so_drive_55 ?_
        refine lv_iconst (v := (1 : Int32)) hx hb d_so_drive_56 (by decide) ?_
        refine lv_iadd hx hb d_so_drive_57 ?_
        refine va_iast hx hb hK hP hD hS 2 0 rfl rfl (vp_in_nI (by omega) (by decide)) d_so_drive_58 (fun H locs hP hD hS => ?_)
        have hP : va_P D cls [(aS, .inr (4, [.int v_eg, .ref a1, .ref a2, .ref a3, .int (p0 &&& (65534 : Int32)), .int z24_0])), (a1, .inl (k.1, 16, .inl v_pr)), (a2, .inl (k.1, 16, .inl (upd z24_1 (nI i : Int32).toNatClampNeg ((z24_1 (nI i : Int32).toNatClampNeg) + (1 : Int32))))), (a3, .inl (k.1, 16, .inl v_se))] H := hP
        have hD : va_D A [(aS, .inr (4, [.int v_eg, .ref a1, .ref a2, .ref a3, .int (p0 &&& (65534 : Int32)), .int z24_0])), (a1, .inl (k.1, 16, .inl v_pr)), (a2, .inl (k.1, 16, .inl (upd z24_1 (nI i : Int32).toNatClampNeg ((z24_1 (nI i : Int32).toNatClampNeg) + (1 : Int32))))), (a3, .inl (k.1, 16, .inl v_se))] := hD
        refine lv_aload_n hx hb d_so_drive_59 rfl (lv_at hl 2 rfl) ?_
        refine lv_iload_n hx hb d_so_drive_60 rfl (lv_at hl 0 rfl) ?_
        refine fn_v (rn_V (own := "TrapHart$Sources") (index := 33) (n := 1) (C := "TrapHart$Sources") (As := [.int (nI i)]) (rest := []) (isC := [0, 1, 2, 3]) (ws := [(aS, .inr (4, [.int v_eg, .ref a1, .ref a2, .ref a3, .int (p0 &&& (65534 : Int32)), .int z24_0])), (a1, .inl (k.1, 16, .inl v_pr)), (a2, .inl (k.1, 16, .inl (upd z24_1 (nI i : Int32).toNatClampNeg ((z24_1 (nI i : Int32).toNatClampNeg) + (1 : Int32))))), (a3, .inl (k.1, 16, .inl v_se))]) (wc := [(aS, .inr (4, [.int v_eg, .ref a1, .ref a2, .ref a3, .int (p0 &&& (65534 : Int32)), .int z24_0])), (a1, .inl (k.1, 16, .inl v_pr)), (a2, .inl (k.1, 16, .inl (upd z24_1 (nI i : Int32).toNatClampNeg ((z24_1 (nI i : Int32).toNatClampNeg) + (1 : Int32))))), (a3, .inl (k.1, 16, .inl v_se))]) ⟨hx, hb, hml, hown, hts⟩ (c_so_forward l D k aS a1 a2 a3 H.size v_eg (p0 &&& (65534 : Int32)) z24_0 v_pr (upd z24_1 (nI i : Int32).toNatClampNeg ((z24_1 (nI i : Int32).toNatClampNeg) + (1 : Int32))) v_se (nI i) (vp_in_nI (by omega) (by decide))) (gd_V uW_id m_212 m_214 ms_1 m_3 m_215) rfl rfl (by decide +kernel) ⟨Nat.le_of_ble_eq_true rfl, Nat.le_of_ble_eq_true rfl⟩ hP hK hD hN hV hS hA rfl (by decide) rfl rfl rfl rfl rfl hl.1 rfl (lv_room (Nat.le_of_ble_eq_true rfl)) d_so_drive_61 ⟨Nat.le_of_ble_eq_true rfl, Nat.le_of_ble_eq_true rfl⟩) hP hD hS hA [0, 1, 2, 3] [] (wr := []) rfl rfl (by decide) (by decide) (fun H locs hP hD hS => ?_)
        have hP : va_P D cls [(aS, .inr (4, [.int v_eg, .ref a1, .ref a2, .ref a3, .int (p0 &&& (65534 : Int32)), .int ((f_so_forward v_eg (p0 &&& (65534 : Int32)) z24_0 (upd z24_1 (nI i : Int32).toNatClampNeg ((z24_1 (nI i : Int32).toNatClampNeg) + (1 : Int32))) v_se (nI i)).1)])), (a1, .inl (k.1, 16, .inl v_pr)), (a2, .inl (k.1, 16, .inl ((f_so_forward v_eg (p0 &&& (65534 : Int32)) z24_0 (upd z24_1 (nI i : Int32).toNatClampNeg ((z24_1 (nI i : Int32).toNatClampNeg) + (1 : Int32))) v_se (nI i)).2))), (a3, .inl (k.1, 16, .inl v_se))] H := hP
        have hD : va_D A [(aS, .inr (4, [.int v_eg, .ref a1, .ref a2, .ref a3, .int (p0 &&& (65534 : Int32)), .int ((f_so_forward v_eg (p0 &&& (65534 : Int32)) z24_0 (upd z24_1 (nI i : Int32).toNatClampNeg ((z24_1 (nI i : Int32).toNatClampNeg) + (1 : Int32))) v_se (nI i)).1)])), (a1, .inl (k.1, 16, .inl v_pr)), (a2, .inl (k.1, 16, .inl ((f_so_forward v_eg (p0 &&& (65534 : Int32)) z24_0 (upd z24_1 (nI i : Int32).toNatClampNeg ((z24_1 (nI i : Int32).toNatClampNeg) + (1 : Int32))) v_se (nI i)).2))), (a3, .inl (k.1, 16, .inl v_se))] := hD
        refine lv_iinc (v := nI (i + 1)) (lv' := [(3, .int (nI (i + 1))), (2, .int ((p0 &&& (v_hi ^^^ (-1 : Int32))) &&& v_eg)), (0, .ref aS), (1, .int p0)]) hx hb d_so_drive_64 hl (k := 0) rfl (nI_1 i) (by decide) rfl (fun ls hl => ?_)
        refine lv_goto (tgt := 24) hx hb d_so_drive_67 (by decide) ?_
        exact ih ((f_so_forward v_eg (p0 &&& (65534 : Int32)) z24_0 (upd z24_1 (nI i : Int32).toNatClampNeg ((z24_1 (nI i : Int32).toNatClampNeg) + (1 : Int32))) v_se (nI i)).1, (f_so_forward v_eg (p0 &&& (65534 : Int32)) z24_0 (upd z24_1 (nI i : Int32).toNatClampNeg ((z24_1 (nI i : Int32).toNatClampNeg) + (1 : Int32))) v_se (nI i)).2) _ _ _ (by rw [hF, f_so_drive_L24, if_neg c1, if_neg c2]) (hP.sub [0, 1, 2, 3] rfl) (hD.sub [0, 1, 2, 3] (by decide) rfl) hS (lv_sub hl [0, 1, 2, 3] rfl)
def f_so_best_L8 (v_pe : Int32) (v_pr : (Nat → Int32)) (p0 : Int32) (p1 : Int32) : Nat → Nat → Int32 → Int32 → Int32
  | 0, i, z8_0, z8_1 => z8_1
  | n + 1, i, z8_0, z8_1 => (if (f_th_hasBit (v_pe &&& p0) (nI i)) = 0 then (f_so_best_L8 v_pe v_pr p0 p1 n (i + 1) z8_0 z8_1) else (if (v_pr (nI i : Int32).toNatClampNeg) ≤ z8_0 then (f_so_best_L8 v_pe v_pr p0 p1 n (i + 1) z8_0 z8_1) else (f_so_best_L8 v_pe v_pr p0 p1 n (i + 1) (v_pr (nI i : Int32).toNatClampNeg) (nI i))))
def f_so_best (v_pe : Int32) (v_pr : (Nat → Int32)) (p0 : Int32) (p1 : Int32) : Int32 := (f_so_best_L8 v_pe v_pr p0 p1 15 1 p1 (0 : Int32))
set_option maxHeartbeats 4000000 in
set_option maxRecDepth 100000 in
theorem c_so_best (l : Launch) (D : va_G) (k : k3) (aS : Nat) (a1 : Nat) (a2 : Nat) (a3 : Nat) (sz : Nat) (v_eg : Int32) (v_hi : Int32) (v_pe : Int32) (v_pr : (Nat → Int32)) (v_wa : (Nat → Int32)) (v_se : (Nat → Int32)) (p0 : Int32) (p1 : Int32) : Met l y_so_best (Cond.code y_so_best b_so_best 6 (some .int) :: uW) ({ frames := 1, cells := 0, slots := 0, locals := 21 }) (va_Pc [.ref aS, .int p0, .int p1] (pr_ D k sz [(aS, .inr (4, [.int v_eg, .ref a1, .ref a2, .ref a3, .int v_hi, .int v_pe])), (a1, .inl (k.1, 16, .inl v_pr)), (a2, .inl (k.1, 16, .inl v_wa)), (a3, .inl (k.1, 16, .inl v_se))])) (va_Qi (fun (r : Int32) (_ : Unit) => r = f_so_best v_pe v_pr p0 p1) (fun _ t => po_ D k (va_A [(aS, .inr (4, [.int v_eg, .ref a1, .ref a2, .ref a3, .int v_hi, .int v_pe])), (a1, .inl (k.1, 16, .inl v_pr)), (a2, .inl (k.1, 16, .inl v_wa)), (a3, .inl (k.1, 16, .inl v_se))] sz) [(aS, .inr (4, [.int v_eg, .ref a1, .ref a2, .ref a3, .int v_hi, .int v_pe])), (a1, .inl (k.1, 16, .inl v_pr)), (a2, .inl (k.1, 16, .inl v_wa)), (a3, .inl (k.1, 16, .inl v_se))] t) (va_A [(aS, .inr (4, [.int v_eg, .ref a1, .ref a2, .ref a3, .int v_hi, .int v_pe])), (a1, .inl (k.1, 16, .inl v_pr)), (a2, .inl (k.1, 16, .inl v_wa)), (a3, .inl (k.1, 16, .inl v_se))] sz)) 0 0 (va_A [(aS, .inr (4, [.int v_eg, .ref a1, .ref a2, .ref a3, .int v_hi, .int v_pe])), (a1, .inl (k.1, 16, .inl v_pr)), (a2, .inl (k.1, 16, .inl v_wa)), (a3, .inl (k.1, 16, .inl v_se))] sz) := by
  refine en_ (by decide) ?_
  intro p e s m below meth c hsz hx hb hr hml hown hts hlocks hin hP hK hD hN hV
  subst hsz
  generalize hAe : va_A [(aS, .inr (4, [.int v_eg, .ref a1, .ref a2, .ref a3, .int v_hi, .int v_pe])), (a1, .inl (k.1, 16, .inl v_pr)), (a2, .inl (k.1, 16, .inl v_wa)), (a3, .inl (k.1, 16, .inl v_se))] s.heap.size = A at hD hV ⊢
  have hA : ∀ q : Nat, s.heap.size ≤ q → A q := fun q h => by rw [← hAe]; exact Or.inr h
  have hS : va_S A s.heap s.heap [] := va_S.rf
  have hF : f_so_best v_pe v_pr p0 p1 = f_so_best v_pe v_pr p0 p1 := rfl
  have hl := lv_entry ([.ref aS, .int p0, .int p1]) (n := 6) (Nat.le_of_ble_eq_true rfl)
  rw [lg_entry_eq]
  generalize (lg_sl ([.ref aS, .int p0, .int p1]) ++ List.replicate (6 - (lg_sl ([.ref aS, .int p0, .int p1])).length) Slot.unset).toArray = ls at hl ⊢
  have hl : lv_has ls 6 [(0, .ref aS), (1, .int p0), (2, .int p1)] := hl
  obtain ⟨H, hH⟩ : ∃ z, z = s.heap := ⟨_, rfl⟩
  have hP : va_P D cls [(aS, .inr (4, [.int v_eg, .ref a1, .ref a2, .ref a3, .int v_hi, .int v_pe])), (a1, .inl (k.1, 16, .inl v_pr)), (a2, .inl (k.1, 16, .inl v_wa)), (a3, .inl (k.1, 16, .inl v_se))] H := by rw [hH]; exact hP
  have hS : va_S A s.heap H [] := by rw [hH]; exact hS
  refine wH_ hH ?_
  refine lv_iconst (v := (0 : Int32)) hx hb d_so_best_0 (by decide) ?_
  refine lv_istore_n (lv' := [(3, .int (0 : Int32)), (0, .ref aS), (1, .int p0), (2, .int p1)]) hx hb d_so_best_1 rfl hl (by decide) rfl (fun ls hl => ?_)
  refine lv_iload_n hx hb d_so_best_2 rfl (lv_at hl 3 rfl) ?_
  refine lv_istore (lv' := [(4, .int p1), (3, .int (0 : Int32)), (0, .ref aS), (1, .int p0), (2, .int p1)]) hx hb d_so_best_3 hl (by decide) rfl (fun ls hl => ?_)
  refine lv_iconst (v := (1 : Int32)) hx hb d_so_best_5 (by decide) ?_
  refine lv_istore (lv' := [(5, .int (1 : Int32)), (4, .int p1), (3, .int (0 : Int32)), (0, .ref aS), (1, .int p0), (2, .int p1)]) hx hb d_so_best_6 hl (by decide) rfl (fun ls hl => ?_)
  refine lp_ (X := Int32 × Int32) (A := A) (D := D) (H0 := s.heap) (fun x9 : Int32 × Int32 => [(aS, .inr (4, [.int v_eg, .ref a1, .ref a2, .ref a3, .int v_hi, .int v_pe])), (a1, .inl (k.1, 16, .inl v_pr)), (a2, .inl (k.1, 16, .inl v_wa)), (a3, .inl (k.1, 16, .inl v_se))]) (fun n9 i9 (x9 : Int32 × Int32) => [(5, .int (nI i9)), (4, .int x9.1), (3, .int x9.2), (0, .ref aS), (1, .int p0), (2, .int p1)]) (fun n9 i9 (x9 : Int32 × Int32) => f_so_best v_pe v_pr p0 p1 = f_so_best_L8 v_pe v_pr p0 p1 n9 i9 x9.1 x9.2) 8 6 16 (fun i x9 H locs ls hi hF hP hD hS hl => ?_) (fun n i x9 H locs ls hi hF hP hD hS hl ih => ?_) 15 1 (p1, (0 : Int32)) _ _ _ rfl (by rw [hF]; unfold f_so_best; rfl) (hP.sub [0, 1, 2, 3] rfl) (hD.sub [0, 1, 2, 3] (by decide) rfl) hS (lv_sub hl [0, 1, 2, 3, 4, 5] rfl)
  · obtain ⟨z8_0, z8_1⟩ := x9
    have hF : f_so_best v_pe v_pr p0 p1 = f_so_best_L8 v_pe v_pr p0 p1 0 i z8_0 z8_1 := hF
    have hP : va_P D cls [(aS, .inr (4, [.int v_eg, .ref a1, .ref a2, .ref a3, .int v_hi, .int v_pe])), (a1, .inl (k.1, 16, .inl v_pr)), (a2, .inl (k.1, 16, .inl v_wa)), (a3, .inl (k.1, 16, .inl v_se))] H := hP
    have hD : va_D A [(aS, .inr (4, [.int v_eg, .ref a1, .ref a2, .ref a3, .int v_hi, .int v_pe])), (a1, .inl (k.1, 16, .inl v_pr)), (a2, .inl (k.1, 16, .inl v_wa)), (a3, .inl (k.1, 16, .inl v_se))] := hD
    have hl : lv_has ls 6 [(5, .int (nI i)), (4, .int z8_0), (3, .int z8_1), (0, .ref aS), (1, .int p0), (2, .int p1)] := hl
    refine lv_iload hx hb d_so_best_8 (lv_at hl 0 rfl) ?_
    refine lv_bipush (v := (15 : Int32)) hx hb d_so_best_10 (by decide) ?_
    refine lv_icmp_gt (tgt := 59) hx hb d_so_best_12 (by decide) (fun c9 => ?_) (fun c9 => absurd (by subst hi; decide) c9)
    refine lv_iload_n hx hb d_so_best_59 rfl (lv_at hl 2 rfl) ?_
    have hE : f_so_best v_pe v_pr p0 p1 = z8_1 := by
      rw [hF, f_so_best_L8]
    rw [hE]
    exact rt_i hx hb hr hlocks hP hD hK hS [0, 1, 2, 3] rfl (by decide) rfl rfl d_so_best_60
  · obtain ⟨z8_0, z8_1⟩ := x9
    have hF : f_so_best v_pe v_pr p0 p1 = f_so_best_L8 v_pe v_pr p0 p1 (n + 1) i z8_0 z8_1 := hF
    have hP : va_P D cls [(aS, .inr (4, [.int v_eg, .ref a1, .ref a2, .ref a3, .int v_hi, .int v_pe])), (a1, .inl (k.1, 16, .inl v_pr)), (a2, .inl (k.1, 16, .inl v_wa)), (a3, .inl (k.1, 16, .inl v_se))] H := hP
    have hD : va_D A [(aS, .inr (4, [.int v_eg, .ref a1, .ref a2, .ref a3, .int v_hi, .int v_pe])), (a1, .inl (k.1, 16, .inl v_pr)), (a2, .inl (k.1, 16, .inl v_wa)), (a3, .inl (k.1, 16, .inl v_se))] := hD
    have hl : lv_has ls 6 [(5, .int (nI i)), (4, .int z8_0), (3, .int z8_1), (0, .ref aS), (1, .int p0), (2, .int p1)] := hl
    refine lv_iload hx hb d_so_best_8 (lv_at hl 0 rfl) ?_
    refine lv_bipush (v := (15 : Int32)) hx hb d_so_best_10 (by decide) ?_
    refine lv_icmp_gt (tgt := 59) hx hb d_so_best_12 (by decide) (fun c9 => absurd c9 (nI_nlt (a := 15) (by omega) (by decide))) (fun c9 => ?_)
    refine lv_aload_n hx hb d_so_best_15 rfl (lv_at hl 3 rfl) ?_
    refine va_get (D := D) (ci := 4) (v := .int v_pe) (C := R_so) (T := T_so) (N := 6) hx hb hts iu_so hown hK hP 0 rfl rfl 5 (by decide) (hts _ m_48) (fun _ h9 => h9) rfl d_so_best_16 ?_
    refine lv_iload_n hx hb d_so_best_19 rfl (lv_at hl 4 rfl) ?_
    refine lv_iand hx hb d_so_best_20 ?_
    refine lv_iload hx hb d_so_best_21 (lv_at hl 0 rfl) ?_
    refine fn_i (rn_SN (own := "TrapHart$Sources") (index := 27) (n := 2) (As := [.int (v_pe &&& p0), .int (nI i)]) (rest := []) (isC := []) (ws := [(aS, .inr (4, [.int v_eg, .ref a1, .ref a2, .ref a3, .int v_hi, .int v_pe])), (a1, .inl (k.1, 16, .inl v_pr)), (a2, .inl (k.1, 16, .inl v_wa)), (a3, .inl (k.1, 16, .inl v_se))]) (wc := []) ⟨hx, hb, hml, hown, hts⟩ (c_th_hasBit l D k H.size (v_pe &&& p0) (nI i)) n_209 m_210 m_1 m_211 rfl rfl (by decide +kernel) ⟨Nat.le_of_ble_eq_true rfl, Nat.le_of_ble_eq_true rfl⟩ hP hK hD hN hV hS hA rfl (by decide) rfl rfl hl.1 rfl (lv_room (Nat.le_of_ble_eq_true rfl)) d_so_best_23 ⟨Nat.le_of_ble_eq_true rfl, Nat.le_of_ble_eq_true rfl⟩) hP hD hS hA [] [0, 1, 2, 3] (wr := [(aS, .inr (4, [.int v_eg, .ref a1, .ref a2, .ref a3, .int v_hi, .int v_pe])), (a1, .inl (k.1, 16, .inl v_pr)), (a2, .inl (k.1, 16, .inl v_wa)), (a3, .inl (k.1, 16, .inl v_se))]) rfl rfl (by decide) (by decide) (fun H locs hP hD hS => ?_)
    have hP : va_P D cls [(aS, .inr (4, [.int v_eg, .ref a1, .ref a2, .ref a3, .int v_hi, .int v_pe])), (a1, .inl (k.1, 16, .inl v_pr)), (a2, .inl (k.1, 16, .inl v_wa)), (a3, .inl (k.1, 16, .inl v_se))] H := hP
    have hD : va_D A [(aS, .inr (4, [.int v_eg, .ref a1, .ref a2, .ref a3, .int v_hi, .int v_pe])), (a1, .inl (k.1, 16, .inl v_pr)), (a2, .inl (k.1, 16, .inl v_wa)), (a3, .inl (k.1, 16, .inl v_se))] := hD
    refine lv_if_eq (tgt := 53) hx hb d_so_best_26 (by decide) (fun c1 => ?_) (fun c1 => ?_)
    · refine lv_iinc (v := nI (i + 1)) (lv' := [(5, .int (nI (i + 1))), (4, .int z8_0), (3, .int z8_1), (0, .ref aS), (1, .int p0), (2, .int p1)]) hx hb d_so_best_53 hl (k := 0) rfl (nI_1 i) (by decide) rfl (fun ls hl => ?_)
      refine lv_goto (tgt := 8) hx hb d_so_best_56 (by decide) ?_
      exact ih (z8_0, z8_1) _ _ _ (by rw [hF, f_so_best_L8, if_pos c1]) (hP.sub [0, 1, 2, 3] rfl) (hD.sub [0, 1, 2, 3] (by decide) rfl) hS (lv_sub hl [0, 1, 2, 3, 4, 5] rfl)
    · refine lv_aload_n hx hb d_so_best_29 rfl (lv_at hl 3 rfl) ?_
      refine va_get (D := D) (ci := 4) (v := .ref a1) (C := R_so) (T := T_so) (N := 6) hx hb hts iu_so hown hK hP 0 rfl rfl 1 (by decide) (hts _ m_40) (fun _ h9 => h9) rfl d_so_best_30 ?_
      refine lv_iload hx hb d_so_best_33 (lv_at hl 0 rfl) ?_
      refine va_iald hx hb hK hP 1 0 rfl rfl (vp_in_nI (by omega) (by decide)) d_so_best_35 ?_
      refine lv_iload hx hb d_so_best_36 (lv_at hl 1 rfl) ?_
      refine lv_icmp_le (tgt := 53) hx hb d_so_best_38 (by decide) (fun c2 => ?_) (fun c2 => ?_)
      · refine lv_iinc (v := nI (i + 1)) (lv' := [(5, .int (nI (i + 1))), (4, .int z8_0), (3, .int z8_1), (0, .ref aS), (1, .int p0), (2, .int p1)]) hx hb d_so_best_53 hl (k := 0) rfl (nI_1 i) (by decide) rfl (fun ls hl => ?_)
        refine lv_goto (tgt := 8) hx hb d_so_best_56 (by decide) ?_
        exact ih (z8_0, z8_1) _ _ _ (by rw [hF, f_so_best_L8, if_neg c1, if_pos c2]) (hP.sub [0, 1, 2, 3] rfl) (hD.sub [0, 1, 2, 3] (by decide) rfl) hS (lv_sub hl [0, 1, 2, 3, 4, 5] rfl)
      · refine lv_iload hx hb d_so_best_41 (lv_at hl 0 rfl) ?_
        refine lv_istore_n (lv' := [(3, .int (nI i)), (5, .int (nI i)), (4, .int z8_0), (0, .ref aS), (1, .int p0), (2, .int p1)]) hx hb d_so_best_43 rfl hl (by decide) rfl (fun ls hl => ?_)
        refine lv_aload_n hx hb d_so_best_44 rfl (lv_at hl 3 rfl) ?_
        refine va_get (D := D) (ci := 4) (v := .ref a1) (C := R_so) (T := T_so) (N := 6) hx hb hts iu_so hown hK hP 0 rfl rfl 1 (by decide) (hts _ m_40) (fun _ h9 => h9) rfl d_so_best_45 ?_
        refine lv_iload hx hb d_so_best_48 (lv_at hl 1 rfl) ?_
        refine va_iald hx hb hK hP 1 0 rfl rfl (vp_in_nI (by omega) (by decide)) d_so_best_50 ?_
        refine lv_istore (lv' := [(4, .int (v_pr (nI i : Int32).toNatClampNeg)), (3, .int (nI i)), (5, .int (nI i)), (0, .ref aS), (1, .int p0), (2, .int p1)]) hx hb d_so_best_51 hl (by decide) rfl (fun ls hl => ?_)
        refine lv_iinc (v := nI (i + 1)) (lv' := [(5, .int (nI (i + 1))), (4, .int (v_pr (nI i : Int32).toNatClampNeg)), (3, .int (nI i)), (0, .ref aS), (1, .int p0), (2, .int p1)]) hx hb d_so_best_53 hl (k := 2) rfl (nI_1 i) (by decide) rfl (fun ls hl => ?_)
        refine lv_goto (tgt := 8) hx hb d_so_best_56 (by decide) ?_
        exact ih (v_pr (nI i : Int32).toNatClampNeg, nI i) _ _ _ (by rw [hF, f_so_best_L8, if_neg c1, if_neg c2]) (hP.sub [0, 1, 2, 3] rfl) (hD.sub [0, 1, 2, 3] (by decide) rfl) hS (lv_sub hl [0, 1, 2, 3, 4, 5] rfl)
def f_rg_firstInterrupt_L2 (p0 : Int32) : Nat → Nat → Int32
  | 0, i => (-1 : Int32)
  | n + 1, i => (if (f_th_hasBit p0 (od9 (nI i : Int32).toNatClampNeg)) = 0 then (f_rg_firstInterrupt_L2 p0 n (i + 1)) else (od9 (nI i : Int32).toNatClampNeg))
def f_rg_firstInterrupt (p0 : Int32) : Int32 := (f_rg_firstInterrupt_L2 p0 6 0)
set_option maxHeartbeats 4000000 in
set_option maxRecDepth 100000 in
theorem c_rg_firstInterrupt (l : Launch) (D : va_G) (k : k3) (sz : Nat) (p0 : Int32) : Met l y_rg_firstInterrupt (Cond.code y_rg_firstInterrupt b_rg_firstInterrupt 2 (some .int) :: uW) ({ frames := 1, cells := 0, slots := 0, locals := 21 }) (va_Pc [.int p0] (pr_ D k sz [])) (va_Qi (fun (r : Int32) (_ : Unit) => r = f_rg_firstInterrupt p0) (fun _ t => po_ D k (va_A [] sz) [] t) (va_A [] sz)) 0 0 (va_A [] sz) := by
  refine en_ (by decide) ?_
  intro p e s m below meth c hsz hx hb hr hml hown hts hlocks hin hP hK hD hN hV
  subst hsz
  generalize hAe : va_A [] s.heap.size = A at hD hV ⊢
  have hA : ∀ q : Nat, s.heap.size ≤ q → A q := fun q h => by rw [← hAe]; exact Or.inr h
  have hS : va_S A s.heap s.heap [] := va_S.rf
  have hF : f_rg_firstInterrupt p0 = f_rg_firstInterrupt p0 := rfl
  have hl := lv_entry ([.int p0]) (n := 2) (Nat.le_of_ble_eq_true rfl)
  rw [lg_entry_eq]
  generalize (lg_sl ([.int p0]) ++ List.replicate (2 - (lg_sl ([.int p0])).length) Slot.unset).toArray = ls at hl ⊢
  have hl : lv_has ls 2 [(0, .int p0)] := hl
  obtain ⟨H, hH⟩ : ∃ z, z = s.heap := ⟨_, rfl⟩
  have hP : va_P D cls [] H := by rw [hH]; exact hP
  have hS : va_S A s.heap H [] := by rw [hH]; exact hS
  refine wH_ hH ?_
  obtain ⟨tO, hZ, hT⟩ := hV.1
  refine lv_iconst (v := (0 : Int32)) hx hb d_rg_firstInterrupt_0 (by decide) ?_
  refine lv_istore_n (lv' := [(1, .int (0 : Int32)), (0, .int p0)]) hx hb d_rg_firstInterrupt_1 rfl hl (by decide) rfl (fun ls hl => ?_)
  refine lp_ (X := Unit) (A := A) (D := D) (H0 := s.heap) (fun x9 : Unit => []) (fun n9 i9 (x9 : Unit) => [(1, .int (nI i9)), (0, .int p0)]) (fun n9 i9 (x9 : Unit) => f_rg_firstInterrupt p0 = f_rg_firstInterrupt_L2 p0 n9 i9) 2 2 6 (fun i x9 H locs ls hi hF hP hD hS hl => ?_) (fun n i x9 H locs ls hi hF hP hD hS hl ih => ?_) 6 0 () _ _ _ rfl (by rw [hF]; unfold f_rg_firstInterrupt; rfl) (hP.sub [] rfl) (hD.sub [] (by decide) rfl) hS (lv_sub hl [0, 1] rfl)
  · have hF : f_rg_firstInterrupt p0 = f_rg_firstInterrupt_L2 p0 0 i := hF
    have hP : va_P D cls [] H := hP
    have hD : va_D A [] := hD
    have hl : lv_has ls 2 [(1, .int (nI i)), (0, .int p0)] := hl
    refine lv_iload_n hx hb d_rg_firstInterrupt_2 rfl (lv_at hl 0 rfl) ?_
    refine va_gets hx hb hZ hS hown (hts _ m_329) (fun _ h9 => h9) d_rg_firstInterrupt_3 ?_
    refine va_tlen (v := (6 : Int32)) hx hb hT hS (by decide) d_rg_firstInterrupt_6 ?_
    refine lv_icmp_ge (tgt := 34) hx hb d_rg_firstInterrupt_7 (by decide) (fun c9 => ?_) (fun c9 => absurd (by subst hi; decide) c9)
    refine lv_iconst (v := (-1 : Int32)) hx hb d_rg_firstInterrupt_34 (by decide) ?_
    have hE : f_rg_firstInterrupt p0 = (-1 : Int32) := by
      rw [hF, f_rg_firstInterrupt_L2]
    rw [hE]
    exact rt_i hx hb hr hlocks hP hD hK hS [] rfl (by decide) rfl rfl d_rg_firstInterrupt_35
  · have hF : f_rg_firstInterrupt p0 = f_rg_firstInterrupt_L2 p0 (n + 1) i := hF
    have hP : va_P D cls [] H := hP
    have hD : va_D A [] := hD
    have hl : lv_has ls 2 [(1, .int (nI i)), (0, .int p0)] := hl
    refine lv_iload_n hx hb d_rg_firstInterrupt_2 rfl (lv_at hl 0 rfl) ?_
    refine va_gets hx hb hZ hS hown (hts _ m_329) (fun _ h9 => h9) d_rg_firstInterrupt_3 ?_
    refine va_tlen (v := (6 : Int32)) hx hb hT hS (by decide) d_rg_firstInterrupt_6 ?_
    refine lv_icmp_ge (tgt := 34) hx hb d_rg_firstInterrupt_7 (by decide) (fun c9 => absurd c9 (nI_ge (b := 6) (by omega) (by decide))) (fun c9 => ?_)
    refine lv_iload_n hx hb d_rg_firstInterrupt_10 rfl (lv_at hl 1 rfl) ?_
    refine va_gets hx hb hZ hS hown (hts _ m_329) (fun _ h9 => h9) d_rg_firstInterrupt_11 ?_
    refine lv_iload_n hx hb d_rg_firstInterrupt_14 rfl (lv_at hl 0 rfl) ?_
    refine va_ti hx hb hT hS (vp_in_nI (by omega) (by decide)) rfl d_rg_firstInterrupt_15 ?_
    refine fn_i (rn_SN (own := "TrapHart$Registers") (index := 36) (n := 2) (As := [.int p0, .int (od9 (nI i : Int32).toNatClampNeg)]) (rest := []) (isC := []) (ws := []) (wc := []) ⟨hx, hb, hml, hown, hts⟩ (c_th_hasBit l D k H.size p0 (od9 (nI i : Int32).toNatClampNeg)) n_240 m_210 m_1 m_211 rfl rfl (by decide +kernel) ⟨Nat.le_of_ble_eq_true rfl, Nat.le_of_ble_eq_true rfl⟩ hP hK hD hN hV hS hA rfl (by decide) rfl rfl hl.1 rfl (lv_room (Nat.le_of_ble_eq_true rfl)) d_rg_firstInterrupt_16 ⟨Nat.le_of_ble_eq_true rfl, Nat.le_of_ble_eq_true rfl⟩) hP hD hS hA [] [] (wr := []) rfl rfl (by decide) (by decide) (fun H locs hP hD hS => ?_)
    have hP : va_P D cls [] H := hP
    have hD : va_D A [] := hD
    refine lv_if_eq (tgt := 28) hx hb d_rg_firstInterrupt_19 (by decide) (fun c1 => ?_) (fun c1 => ?_)
    · refine lv_iinc (v := nI (i + 1)) (lv' := [(1, .int (nI (i + 1))), (0, .int p0)]) hx hb d_rg_firstInterrupt_28 hl (k := 0) rfl (nI_1 i) (by decide) rfl (fun ls hl => ?_)
      refine lv_goto (tgt := 2) hx hb d_rg_firstInterrupt_31 (by decide) ?_
      exact ih () _ _ _ (by rw [hF, f_rg_firstInterrupt_L2, if_pos c1]) (hP.sub [] rfl) (hD.sub [] (by decide) rfl) hS (lv_sub hl [0, 1] rfl)
    · refine va_gets hx hb hZ hS hown (hts _ m_329) (fun _ h9 => h9) d_rg_firstInterrupt_22 ?_
      refine lv_iload_n hx hb d_rg_firstInterrupt_25 rfl (lv_at hl 0 rfl) ?_
      refine va_ti hx hb hT hS (vp_in_nI (by omega) (by decide)) rfl d_rg_firstInterrupt_26 ?_
      have hE : f_rg_firstInterrupt p0 = (od9 (nI i : Int32).toNatClampNeg) := by
        rw [hF, f_rg_firstInterrupt_L2, if_neg c1]
      rw [hE]
      exact rt_i hx hb hr hlocks hP hD hK hS [] rfl (by decide) rfl rfl d_rg_firstInterrupt_27
