set_option maxHeartbeats 4000000 in
set_option maxRecDepth 100000 in
theorem c_so_init (l : Launch) (D : va_G) (k : k3) (h0 : Nat) (sz : Nat) (p0 : Int32) : Met l y_so_init (Cond.code y_so_init b_so_init 2 none :: uW) ({ frames := 1, cells := 3, slots := 48, locals := 12 }) (va_Pc [.ref h0, .int p0] (pr_ D k sz [(h0, .inr (4, [.int 0, .null, .null, .null, .int 0, .int 0]))])) (va_Qv (fun (_ : Nat × Nat × Nat) => True) (fun u t => po_ D k (va_A [(h0, .inr (4, [.int 0, .null, .null, .null, .int 0, .int 0]))] sz) [(h0, .inr (4, [.int (p0 &&& (65534 : Int32)), .ref u.1, .ref u.2.1, .ref u.2.2, .int 0, .int 0])), (u.1, .inl (k.1, 16, .inl (fun _ => 0))), (u.2.1, .inl (k.1, 16, .inl (fun _ => 0))), (u.2.2, .inl (k.1, 16, .inl (fun _ => 0)))] t) (va_A [(h0, .inr (4, [.int 0, .null, .null, .null, .int 0, .int 0]))] sz)) 3 48 (va_A [(h0, .inr (4, [.int 0, .null, .null, .null, .int 0, .int 0]))] sz) := by
  refine en_ (by decide) ?_
  intro p e s m below meth c hsz hx hb hr hml hown hts hlocks hin hP hK hD hN hV
  subst hsz
  generalize hAe : va_A [(h0, .inr (4, [.int 0, .null, .null, .null, .int 0, .int 0]))] s.heap.size = A at hD hV ⊢
  have hA : ∀ q : Nat, s.heap.size ≤ q → A q := fun q h => by rw [← hAe]; exact Or.inr h
  have hS : va_S A s.heap s.heap [] := va_S.rf
  have hl := lv_entry ([.ref h0, .int p0]) (n := 2) (Nat.le_of_ble_eq_true rfl)
  rw [lg_entry_eq]
  generalize (lg_sl ([.ref h0, .int p0]) ++ List.replicate (2 - (lg_sl ([.ref h0, .int p0])).length) Slot.unset).toArray = ls at hl ⊢
  have hl : lv_has ls 2 [(0, .ref h0), (1, .int p0)] := hl
  obtain ⟨H, hH⟩ : ∃ z, z = s.heap := ⟨_, rfl⟩
  have hP : va_P D cls [(h0, .inr (4, [.int 0, .null, .null, .null, .int 0, .int 0]))] H := by rw [hH]; exact hP
  have hS : va_S A s.heap H [] := by rw [hH]; exact hS
  refine wH_ hH ?_
  refine lv_aload_n hx hb d_so_init_0 rfl (lv_at hl 0 rfl) ?_
  refine W.objInit hx hb hown (hts _ m_37) (hts _ m_24) (hts _ m_25) rfl (by rw [hml]; exact hl.1) rfl d_so_init_1 (Nat.le_of_ble_eq_true rfl) (Nat.le_of_ble_eq_true rfl) ?_
  refine W.eq (g2 := F0 m 4 ls []) rfl ?_
  refine lv_aload_n hx hb d_so_init_4 rfl (lv_at hl 0 rfl) ?_
  refine lv_bipush (v := (16 : Int32)) hx hb d_so_init_5 (by decide) ?_
  refine na_ (atype := .int) (a0 := (16, .inl (fun _ => 0))) (N := 16) (ty := .int) hx hb (hts _ m_63) rfl (fun _ _ h => h) hK hP hD hS hA 0 rfl (fun _ => rfl) (by decide) (by decide) (by decide) (Nat.le_of_ble_eq_true rfl) (Nat.le_of_ble_eq_true rfl) d_so_init_7 (fun q7 H hP hD hS => ?_)
  have hP : va_P D cls [(h0, .inr (4, [.int 0, .null, .null, .null, .int 0, .int 0])), (q7, .inl (k.1, 16, .inl (fun _ => 0)))] H := hP
  have hD : va_D A [(h0, .inr (4, [.int 0, .null, .null, .null, .int 0, .int 0])), (q7, .inl (k.1, 16, .inl (fun _ => 0)))] := hD
  refine W.widen (k := 1) (n := 16) (by omega) (by omega) ?_
  refine va_putF (D := D) (ci := 4) (v := .ref q7) (ty := (.array .int)) (C := R_so) (T := T_so) (N := 6) hx hb hts iu_so t_so tk_so nm_so hown hK hP hD hS 0 rfl rfl 1 (by decide) (hts _ m_40) (fun _ h9 => h9) rfl hin rfl (by decide +kernel) rfl rfl (Nat.le_of_ble_eq_true rfl) d_so_init_9 (fun H locs hP hD hS => ?_)
  have hP : va_P D cls [(h0, .inr (4, [.int 0, .ref q7, .null, .null, .int 0, .int 0])), (q7, .inl (k.1, 16, .inl (fun _ => 0)))] H := hP
  have hD : va_D A [(h0, .inr (4, [.int 0, .ref q7, .null, .null, .int 0, .int 0])), (q7, .inl (k.1, 16, .inl (fun _ => 0)))] := hD
  refine lv_aload_n hx hb d_so_init_12 rfl (lv_at hl 0 rfl) ?_
  refine lv_bipush (v := (16 : Int32)) hx hb d_so_init_13 (by decide) ?_
  refine na_ (atype := .int) (a0 := (16, .inl (fun _ => 0))) (N := 16) (ty := .int) hx hb (hts _ m_63) rfl (fun _ _ h => h) hK hP hD hS hA 0 rfl (fun _ => rfl) (by decide) (by decide) (by decide) (Nat.le_of_ble_eq_true rfl) (Nat.le_of_ble_eq_true rfl) d_so_init_15 (fun q15 H hP hD hS => ?_)
  have hP : va_P D cls [(h0, .inr (4, [.int 0, .ref q7, .null, .null, .int 0, .int 0])), (q7, .inl (k.1, 16, .inl (fun _ => 0))), (q15, .inl (k.1, 16, .inl (fun _ => 0)))] H := hP
  have hD : va_D A [(h0, .inr (4, [.int 0, .ref q7, .null, .null, .int 0, .int 0])), (q7, .inl (k.1, 16, .inl (fun _ => 0))), (q15, .inl (k.1, 16, .inl (fun _ => 0)))] := hD
  refine W.widen (k := 2) (n := 32) (by omega) (by omega) ?_
  refine va_putF (D := D) (ci := 4) (v := .ref q15) (ty := (.array .int)) (C := R_so) (T := T_so) (N := 6) hx hb hts iu_so t_so tk_so nm_so hown hK hP hD hS 0 rfl rfl 2 (by decide) (hts _ m_42) (fun _ h9 => h9) rfl hin rfl (by decide +kernel) rfl rfl (Nat.le_of_ble_eq_true rfl) d_so_init_17 (fun H locs hP hD hS => ?_)
  have hP : va_P D cls [(h0, .inr (4, [.int 0, .ref q7, .ref q15, .null, .int 0, .int 0])), (q7, .inl (k.1, 16, .inl (fun _ => 0))), (q15, .inl (k.1, 16, .inl (fun _ => 0)))] H := hP
  have hD : va_D A [(h0, .inr (4, [.int 0, .ref q7, .ref q15, .null, .int 0, .int 0])), (q7, .inl (k.1, 16, .inl (fun _ => 0))), (q15, .inl (k.1, 16, .inl (fun _ => 0)))] := hD
  refine lv_aload_n hx hb d_so_init_20 rfl (lv_at hl 0 rfl) ?_
  refine lv_bipush (v := (16 : Int32)) hx hb d_so_init_21 (by decide) ?_
  refine na_ (atype := .int) (a0 := (16, .inl (fun _ => 0))) (N := 16) (ty := .int) hx hb (hts _ m_63) rfl (fun _ _ h => h) hK hP hD hS hA 0 rfl (fun _ => rfl) (by decide) (by decide) (by decide) (Nat.le_of_ble_eq_true rfl) (Nat.le_of_ble_eq_true rfl) d_so_init_23 (fun q23 H hP hD hS => ?_)
  have hP : va_P D cls [(h0, .inr (4, [.int 0, .ref q7, .ref q15, .null, .int 0, .int 0])), (q7, .inl (k.1, 16, .inl (fun _ => 0))), (q15, .inl (k.1, 16, .inl (fun _ => 0))), (q23, .inl (k.1, 16, .inl (fun _ => 0)))] H := hP
  have hD : va_D A [(h0, .inr (4, [.int 0, .ref q7, .ref q15, .null, .int 0, .int 0])), (q7, .inl (k.1, 16, .inl (fun _ => 0))), (q15, .inl (k.1, 16, .inl (fun _ => 0))), (q23, .inl (k.1, 16, .inl (fun _ => 0)))] := hD
  refine W.widen (k := 3) (n := 48) (by omega) (by omega) ?_
  refine va_putF (D := D) (ci := 4) (v := .ref q23) (ty := (.array .int)) (C := R_so) (T := T_so) (N := 6) hx hb hts iu_so t_so tk_so nm_so hown hK hP hD hS 0 rfl rfl 3 (by decide) (hts _ m_44) (fun _ h9 => h9) rfl hin rfl (by decide +kernel) rfl rfl (Nat.le_of_ble_eq_true rfl) d_so_init_25 (fun H locs hP hD hS => ?_)
  have hP : va_P D cls [(h0, .inr (4, [.int 0, .ref q7, .ref q15, .ref q23, .int 0, .int 0])), (q7, .inl (k.1, 16, .inl (fun _ => 0))), (q15, .inl (k.1, 16, .inl (fun _ => 0))), (q23, .inl (k.1, 16, .inl (fun _ => 0)))] H := hP
  have hD : va_D A [(h0, .inr (4, [.int 0, .ref q7, .ref q15, .ref q23, .int 0, .int 0])), (q7, .inl (k.1, 16, .inl (fun _ => 0))), (q15, .inl (k.1, 16, .inl (fun _ => 0))), (q23, .inl (k.1, 16, .inl (fun _ => 0)))] := hD
  refine lv_aload_n hx hb d_so_init_28 rfl (lv_at hl 0 rfl) ?_
  refine lv_iload_n hx hb d_so_init_29 rfl (lv_at hl 1 rfl) ?_
  refine lv_ldc (v := (65534 : Int32)) hx hb hown (hts _ m_38) d_so_init_30 ?_
  refine lv_iand hx hb d_so_init_32 ?_
  refine va_putF (D := D) (ci := 4) (v := .int (p0 &&& (65534 : Int32))) (ty := .int) (C := R_so) (T := T_so) (N := 6) hx hb hts iu_so t_so tk_so nm_so hown hK hP hD hS 0 rfl rfl 0 (by decide) (hts _ m_39) (fun _ h9 => h9) rfl hin rfl (by decide +kernel) rfl rfl (Nat.le_of_ble_eq_true rfl) d_so_init_33 (fun H locs hP hD hS => ?_)
  have hP : va_P D cls [(h0, .inr (4, [.int (p0 &&& (65534 : Int32)), .ref q7, .ref q15, .ref q23, .int 0, .int 0])), (q7, .inl (k.1, 16, .inl (fun _ => 0))), (q15, .inl (k.1, 16, .inl (fun _ => 0))), (q23, .inl (k.1, 16, .inl (fun _ => 0)))] H := hP
  have hD : va_D A [(h0, .inr (4, [.int (p0 &&& (65534 : Int32)), .ref q7, .ref q15, .ref q23, .int 0, .int 0])), (q7, .inl (k.1, 16, .inl (fun _ => 0))), (q15, .inl (k.1, 16, .inl (fun _ => 0))), (q23, .inl (k.1, 16, .inl (fun _ => 0)))] := hD
  exact rt_c (q7, q15, q23) hx hb hr hlocks hP hD hK hS [0, 1, 2, 3] rfl (by decide) rfl d_so_init_36
set_option maxHeartbeats 4000000 in
set_option maxRecDepth 100000 in
theorem c_ct_init (l : Launch) (D : va_G) (k : k3) (h0 : Nat) (r0 : Nat) (sz : Nat) (p1 : Int32) : Met l y_ct_init (Cond.code y_ct_init b_ct_init 3 none :: uW) ({ frames := 1, cells := 0, slots := 0, locals := 12 }) (va_Pc [.ref h0, .ref r0, .int p1] (pr_ D k sz [(h0, .inr (0, [.null, .int 0, .int 0, .int 0]))])) (va_Qv (fun (_ : Unit) => True) (fun u t => po_ D k (va_A [(h0, .inr (0, [.null, .int 0, .int 0, .int 0]))] sz) [(h0, .inr (0, [.ref r0, .int (p1 + (1 : Int32)), .int 0, .int 0]))] t) (va_A [(h0, .inr (0, [.null, .int 0, .int 0, .int 0]))] sz)) 0 0 (va_A [(h0, .inr (0, [.null, .int 0, .int 0, .int 0]))] sz) := by
  refine en_ (by decide) ?_
  intro p e s m below meth c hsz hx hb hr hml hown hts hlocks hin hP hK hD hN hV
  subst hsz
  generalize hAe : va_A [(h0, .inr (0, [.null, .int 0, .int 0, .int 0]))] s.heap.size = A at hD hV ⊢
  have hA : ∀ q : Nat, s.heap.size ≤ q → A q := fun q h => by rw [← hAe]; exact Or.inr h
  have hS : va_S A s.heap s.heap [] := va_S.rf
  have hl := lv_entry ([.ref h0, .ref r0, .int p1]) (n := 3) (Nat.le_of_ble_eq_true rfl)
  rw [lg_entry_eq]
  generalize (lg_sl ([.ref h0, .ref r0, .int p1]) ++ List.replicate (3 - (lg_sl ([.ref h0, .ref r0, .int p1])).length) Slot.unset).toArray = ls at hl ⊢
  have hl : lv_has ls 3 [(0, .ref h0), (1, .ref r0), (2, .int p1)] := hl
  obtain ⟨H, hH⟩ : ∃ z, z = s.heap := ⟨_, rfl⟩
  have hP : va_P D cls [(h0, .inr (0, [.null, .int 0, .int 0, .int 0]))] H := by rw [hH]; exact hP
  have hS : va_S A s.heap H [] := by rw [hH]; exact hS
  refine wH_ hH ?_
  refine lv_aload_n hx hb d_ct_init_0 rfl (lv_at hl 0 rfl) ?_
  refine W.objInit hx hb hown (hts _ m_69) (hts _ m_24) (hts _ m_25) rfl (by rw [hml]; exact hl.1) rfl d_ct_init_1 (Nat.le_of_ble_eq_true rfl) (Nat.le_of_ble_eq_true rfl) ?_
  refine W.eq (g2 := F0 m 4 ls []) rfl ?_
  refine lv_aload_n hx hb d_ct_init_4 rfl (lv_at hl 0 rfl) ?_
  refine lv_aload_n hx hb d_ct_init_5 rfl (lv_at hl 1 rfl) ?_
  refine va_putF (D := D) (ci := 0) (v := .ref r0) (ty := .object "TrapHart$Sources") (C := R_ct) (T := T_ct) (N := 4) hx hb hts iu_ct t_ct tk_ct nm_ct hown hK hP hD hS 0 rfl rfl 0 (by decide) (hts _ m_70) (fun _ h9 => h9) rfl hin rfl (by decide +kernel) rfl rfl (Nat.le_of_ble_eq_true rfl) d_ct_init_6 (fun H locs hP hD hS => ?_)
  have hP : va_P D cls [(h0, .inr (0, [.ref r0, .int 0, .int 0, .int 0]))] H := hP
  have hD : va_D A [(h0, .inr (0, [.ref r0, .int 0, .int 0, .int 0]))] := hD
  refine lv_aload_n hx hb d_ct_init_9 rfl (lv_at hl 0 rfl) ?_
  refine lv_iload_n hx hb d_ct_init_10 rfl (lv_at hl 2 rfl) ?_
  refine lv_iconst (v := (1 : Int32)) hx hb d_ct_init_11 (by decide) ?_
  refine lv_iadd hx hb d_ct_init_12 ?_
  refine va_putF (D := D) (ci := 0) (v := .int (p1 + (1 : Int32))) (ty := .int) (C := R_ct) (T := T_ct) (N := 4) hx hb hts iu_ct t_ct tk_ct nm_ct hown hK hP hD hS 0 rfl rfl 1 (by decide) (hts _ m_71) (fun _ h9 => h9) rfl hin rfl (by decide +kernel) rfl rfl (Nat.le_of_ble_eq_true rfl) d_ct_init_13 (fun H locs hP hD hS => ?_)
  have hP : va_P D cls [(h0, .inr (0, [.ref r0, .int (p1 + (1 : Int32)), .int 0, .int 0]))] H := hP
  have hD : va_D A [(h0, .inr (0, [.ref r0, .int (p1 + (1 : Int32)), .int 0, .int 0]))] := hD
  exact rt_c () hx hb hr hlocks hP hD hK hS [0] rfl (by decide) rfl d_ct_init_16
set_option maxHeartbeats 4000000 in
set_option maxRecDepth 100000 in
theorem c_tm_init (l : Launch) (D : va_G) (k : k3) (h0 : Nat) (sz : Nat) : Met l y_tm_init (Cond.code y_tm_init b_tm_init 1 none :: uW) ({ frames := 1, cells := 0, slots := 0, locals := 12 }) (va_Pc [.ref h0] (pr_ D k sz [(h0, .inr (6, [.long 0, .long 0, .int 0]))])) (va_Qv (fun (_ : Unit) => True) (fun u t => po_ D k (va_A [(h0, .inr (6, [.long 0, .long 0, .int 0]))] sz) [(h0, .inr (6, [.long (0 : Int64), .long (-1 : Int64), .int (0 : Int32)]))] t) (va_A [(h0, .inr (6, [.long 0, .long 0, .int 0]))] sz)) 0 0 (va_A [(h0, .inr (6, [.long 0, .long 0, .int 0]))] sz) := by
  refine en_ (by decide) ?_
  intro p e s m below meth c hsz hx hb hr hml hown hts hlocks hin hP hK hD hN hV
  subst hsz
  generalize hAe : va_A [(h0, .inr (6, [.long 0, .long 0, .int 0]))] s.heap.size = A at hD hV ⊢
  have hA : ∀ q : Nat, s.heap.size ≤ q → A q := fun q h => by rw [← hAe]; exact Or.inr h
  have hS : va_S A s.heap s.heap [] := va_S.rf
  have hl := lv_entry ([.ref h0]) (n := 1) (Nat.le_of_ble_eq_true rfl)
  rw [lg_entry_eq]
  generalize (lg_sl ([.ref h0]) ++ List.replicate (1 - (lg_sl ([.ref h0])).length) Slot.unset).toArray = ls at hl ⊢
  have hl : lv_has ls 1 [(0, .ref h0)] := hl
  obtain ⟨H, hH⟩ : ∃ z, z = s.heap := ⟨_, rfl⟩
  have hP : va_P D cls [(h0, .inr (6, [.long 0, .long 0, .int 0]))] H := by rw [hH]; exact hP
  have hS : va_S A s.heap H [] := by rw [hH]; exact hS
  refine wH_ hH ?_
  refine lv_aload_n hx hb d_tm_init_0 rfl (lv_at hl 0 rfl) ?_
  refine W.objInit hx hb hown (hts _ m_90) (hts _ m_24) (hts _ m_25) rfl (by rw [hml]; exact hl.1) rfl d_tm_init_1 (Nat.le_of_ble_eq_true rfl) (Nat.le_of_ble_eq_true rfl) ?_
  refine W.eq (g2 := F0 m 4 ls []) rfl ?_
  refine lv_aload_n hx hb d_tm_init_4 rfl (lv_at hl 0 rfl) ?_
  refine lv_lconst (v := (0 : Int64)) hx hb d_tm_init_5 (by decide) ?_
  refine va_put (D := D) (ci := 6) (v := .long (0 : Int64)) (ty := .long) (C := R_tm) (T := T_tm) (N := 3) hx hb hts iu_tm t_tm tk_tm nm_tm hown hK hP hD hS 0 rfl rfl 0 (by decide) (hts _ m_92) (fun _ h9 => h9) rfl (by decide +kernel) rfl rfl (Nat.le_of_ble_eq_true rfl) d_tm_init_6 (fun H locs hP hD hS => ?_)
  have hP : va_P D cls [(h0, .inr (6, [.long (0 : Int64), .long 0, .int 0]))] H := hP
  have hD : va_D A [(h0, .inr (6, [.long (0 : Int64), .long 0, .int 0]))] := hD
  refine lv_aload_n hx hb d_tm_init_9 rfl (lv_at hl 0 rfl) ?_
  refine lv_ldc2 (v := (-1 : Int64)) hx hb hown (hts _ m_91) d_tm_init_10 ?_
  refine va_put (D := D) (ci := 6) (v := .long (-1 : Int64)) (ty := .long) (C := R_tm) (T := T_tm) (N := 3) hx hb hts iu_tm t_tm tk_tm nm_tm hown hK hP hD hS 0 rfl rfl 1 (by decide) (hts _ m_95) (fun _ h9 => h9) rfl (by decide +kernel) rfl rfl (Nat.le_of_ble_eq_true rfl) d_tm_init_13 (fun H locs hP hD hS => ?_)
  have hP : va_P D cls [(h0, .inr (6, [.long (0 : Int64), .long (-1 : Int64), .int 0]))] H := hP
  have hD : va_D A [(h0, .inr (6, [.long (0 : Int64), .long (-1 : Int64), .int 0]))] := hD
  refine lv_aload_n hx hb d_tm_init_16 rfl (lv_at hl 0 rfl) ?_
  refine lv_iconst (v := (0 : Int32)) hx hb d_tm_init_17 (by decide) ?_
  refine va_put (D := D) (ci := 6) (v := .int (0 : Int32)) (ty := .int) (C := R_tm) (T := T_tm) (N := 3) hx hb hts iu_tm t_tm tk_tm nm_tm hown hK hP hD hS 0 rfl rfl 2 (by decide) (hts _ m_97) (fun _ h9 => h9) rfl (by decide +kernel) rfl rfl (Nat.le_of_ble_eq_true rfl) d_tm_init_18 (fun H locs hP hD hS => ?_)
  have hP : va_P D cls [(h0, .inr (6, [.long (0 : Int64), .long (-1 : Int64), .int (0 : Int32)]))] H := hP
  have hD : va_D A [(h0, .inr (6, [.long (0 : Int64), .long (-1 : Int64), .int (0 : Int32)]))] := hD
  exact rt_c () hx hb hr hlocks hP hD hK hS [0] rfl (by decide) rfl d_tm_init_21
set_option maxHeartbeats 4000000 in
set_option maxRecDepth 100000 in
theorem c_dv_init (l : Launch) (D : va_G) (k : k3) (h0 : Nat) (sz : Nat) (p0 : Int32) : Met l y_dv_init (Cond.code y_dv_init b_dv_init 2 none :: uW) ({ frames := 2, cells := 7, slots := 65, locals := 34 }) (va_Pc [.ref h0, .int p0] (pr_ D k sz [(h0, .inr (1, [.null, .null, .null, .null]))])) (va_Qv (fun (_ : Nat × Nat × Nat × Nat × Nat × Nat × Nat) => True) (fun u t => po_ D k (va_A [(h0, .inr (1, [.null, .null, .null, .null]))] sz) [(h0, .inr (1, [.ref u.1, .ref u.2.2.2.2.1, .ref u.2.2.2.2.2.1, .ref u.2.2.2.2.2.2])), (u.1, .inr (4, [.int (p0 &&& (65534 : Int32)), .ref u.2.1, .ref u.2.2.1, .ref u.2.2.2.1, .int 0, .int 0])), (u.2.1, .inl (k.1, 16, .inl (fun _ => 0))), (u.2.2.1, .inl (k.1, 16, .inl (fun _ => 0))), (u.2.2.2.1, .inl (k.1, 16, .inl (fun _ => 0))), (u.2.2.2.2.1, .inr (0, [.ref u.1, .int ((0 : Int32) + (1 : Int32)), .int 0, .int 0])), (u.2.2.2.2.2.1, .inr (0, [.ref u.1, .int ((1 : Int32) + (1 : Int32)), .int 0, .int 0])), (u.2.2.2.2.2.2, .inr (6, [.long (0 : Int64), .long (-1 : Int64), .int (0 : Int32)]))] t) (va_A [(h0, .inr (1, [.null, .null, .null, .null]))] sz)) 7 65 (va_A [(h0, .inr (1, [.null, .null, .null, .null]))] sz) := by
  refine en_ (by decide) ?_
  intro p e s m below meth c hsz hx hb hr hml hown hts hlocks hin hP hK hD hN hV
  subst hsz
  generalize hAe : va_A [(h0, .inr (1, [.null, .null, .null, .null]))] s.heap.size = A at hD hV ⊢
  have hA : ∀ q : Nat, s.heap.size ≤ q → A q := fun q h => by rw [← hAe]; exact Or.inr h
  have hS : va_S A s.heap s.heap [] := va_S.rf
  have hl := lv_entry ([.ref h0, .int p0]) (n := 2) (Nat.le_of_ble_eq_true rfl)
  rw [lg_entry_eq]
  generalize (lg_sl ([.ref h0, .int p0]) ++ List.replicate (2 - (lg_sl ([.ref h0, .int p0])).length) Slot.unset).toArray = ls at hl ⊢
  have hl : lv_has ls 2 [(0, .ref h0), (1, .int p0)] := hl
  obtain ⟨H, hH⟩ : ∃ z, z = s.heap := ⟨_, rfl⟩
  have hP : va_P D cls [(h0, .inr (1, [.null, .null, .null, .null]))] H := by rw [hH]; exact hP
  have hS : va_S A s.heap H [] := by rw [hH]; exact hS
  refine wH_ hH ?_
  refine lv_aload_n hx hb d_dv_init_0 rfl (lv_at hl 0 rfl) ?_
  refine W.objInit hx hb hown (hts _ m_31) (hts _ m_24) (hts _ m_25) rfl (by rw [hml]; exact hl.1) rfl d_dv_init_1 (Nat.le_of_ble_eq_true rfl) (Nat.le_of_ble_eq_true rfl) ?_
  refine W.eq (g2 := F0 m 4 ls []) rfl ?_
  refine lv_aload_n hx hb d_dv_init_4 rfl (lv_at hl 0 rfl) ?_
  refine va_new (ci := 4) (fs := [.int 0, .null, .null, .null, .int 0, .int 0]) (C := R_so) (T := T_so) (N := 6) hx hb hts iu_so t_so tk_so hown (hts _ m_32) (hts _ m_33) (hts _ m_3) hK hP hD hS hA rfl (fun j hj => by rcases (show j = 0 ∨ j = 1 ∨ j = 2 ∨ j = 3 ∨ j = 4 ∨ j = 5 by omega) with rfl | rfl | rfl | rfl | rfl | rfl <;> rfl) (Nat.le_of_ble_eq_true rfl) (Nat.le_of_ble_eq_true rfl) d_dv_init_5 (fun q5 H hP hD hS => ?_)
  have hP : va_P D cls [(h0, .inr (1, [.null, .null, .null, .null])), (q5, .inr (4, [.int 0, .null, .null, .null, .int 0, .int 0]))] H := hP
  have hD : va_D A [(h0, .inr (1, [.null, .null, .null, .null])), (q5, .inr (4, [.int 0, .null, .null, .null, .int 0, .int 0]))] := hD
  refine W.widen (k := 1) (n := 6) (by omega) (by omega) ?_
  refine lv_dup hx hb d_dv_init_8 rfl ?_
  refine lv_iload_n hx hb d_dv_init_9 rfl (lv_at hl 1 rfl) ?_
  refine fn_c (rn_IN (own := "TrapHart$Devices") (index := 9) (n := 1) (As := [.int p0]) (rest := [.ref q5, .ref h0]) (isC := [1]) (ws := [(h0, .inr (1, [.null, .null, .null, .null])), (q5, .inr (4, [.int 0, .null, .null, .null, .int 0, .int 0]))]) (wc := [(q5, .inr (4, [.int 0, .null, .null, .null, .int 0, .int 0]))]) ⟨hx, hb, hml, hown, hts⟩ (c_so_init l D k q5 H.size p0) n_34 m_35 m_3 m_36 rfl rfl rfl (by decide +kernel) ⟨Nat.le_of_ble_eq_true rfl, Nat.le_of_ble_eq_true rfl⟩ hP hK hD hN hV hS hA rfl (by decide) rfl rfl hl.1 rfl (lv_room (Nat.le_of_ble_eq_true rfl)) d_dv_init_10 ⟨Nat.le_of_ble_eq_true rfl, Nat.le_of_ble_eq_true rfl⟩) hP hD hS hA [1] [0] (wr := [(h0, .inr (1, [.null, .null, .null, .null]))]) rfl rfl (by decide) (by decide) (fun u H locs hP hD hS => ?_)
  obtain ⟨q10_0, q10_1, q10_2⟩ := u
  have hP : va_P D cls [(h0, .inr (1, [.null, .null, .null, .null])), (q5, .inr (4, [.int (p0 &&& (65534 : Int32)), .ref q10_0, .ref q10_1, .ref q10_2, .int 0, .int 0])), (q10_0, .inl (k.1, 16, .inl (fun _ => 0))), (q10_1, .inl (k.1, 16, .inl (fun _ => 0))), (q10_2, .inl (k.1, 16, .inl (fun _ => 0)))] H := hP
  have hD : va_D A [(h0, .inr (1, [.null, .null, .null, .null])), (q5, .inr (4, [.int (p0 &&& (65534 : Int32)), .ref q10_0, .ref q10_1, .ref q10_2, .int 0, .int 0])), (q10_0, .inl (k.1, 16, .inl (fun _ => 0))), (q10_1, .inl (k.1, 16, .inl (fun _ => 0))), (q10_2, .inl (k.1, 16, .inl (fun _ => 0)))] := hD
  refine W.widen (k := 4) (n := 54) (by omega) (by omega) ?_
  refine va_putF (D := D) (ci := 1) (v := .ref q5) (ty := .object "TrapHart$Sources") (C := R_dv) (T := T_dv) (N := 4) hx hb hts iu_dv t_dv tk_dv nm_dv hown hK hP hD hS 0 rfl rfl 0 (by decide) (hts _ m_106) (fun _ h9 => h9) rfl hin rfl (by decide +kernel) rfl rfl (Nat.le_of_ble_eq_true rfl) d_dv_init_13 (fun H locs hP hD hS => ?_)
  have hP : va_P D cls [(h0, .inr (1, [.ref q5, .null, .null, .null])), (q5, .inr (4, [.int (p0 &&& (65534 : Int32)), .ref q10_0, .ref q10_1, .ref q10_2, .int 0, .int 0])), (q10_0, .inl (k.1, 16, .inl (fun _ => 0))), (q10_1, .inl (k.1, 16, .inl (fun _ => 0))), (q10_2, .inl (k.1, 16, .inl (fun _ => 0)))] H := hP
  have hD : va_D A [(h0, .inr (1, [.ref q5, .null, .null, .null])), (q5, .inr (4, [.int (p0 &&& (65534 : Int32)), .ref q10_0, .ref q10_1, .ref q10_2, .int 0, .int 0])), (q10_0, .inl (k.1, 16, .inl (fun _ => 0))), (q10_1, .inl (k.1, 16, .inl (fun _ => 0))), (q10_2, .inl (k.1, 16, .inl (fun _ => 0)))] := hD
  refine lv_aload_n hx hb d_dv_init_16 rfl (lv_at hl 0 rfl) ?_
  refine va_new (ci := 0) (fs := [.null, .int 0, .int 0, .int 0]) (C := R_ct) (T := T_ct) (N := 4) hx hb hts iu_ct t_ct tk_ct hown (hts _ m_64) (hts _ m_65) (hts _ m_4) hK hP hD hS hA rfl (fun j hj => by rcases (show j = 0 ∨ j = 1 ∨ j = 2 ∨ j = 3 by omega) with rfl | rfl | rfl | rfl <;> rfl) (Nat.le_of_ble_eq_true rfl) (Nat.le_of_ble_eq_true rfl) d_dv_init_17 (fun q17 H hP hD hS => ?_)
  have hP : va_P D cls [(h0, .inr (1, [.ref q5, .null, .null, .null])), (q5, .inr (4, [.int (p0 &&& (65534 : Int32)), .ref q10_0, .ref q10_1, .ref q10_2, .int 0, .int 0])), (q10_0, .inl (k.1, 16, .inl (fun _ => 0))), (q10_1, .inl (k.1, 16, .inl (fun _ => 0))), (q10_2, .inl (k.1, 16, .inl (fun _ => 0))), (q17, .inr (0, [.null, .int 0, .int 0, .int 0]))] H := hP
  have hD : va_D A [(h0, .inr (1, [.ref q5, .null, .null, .null])), (q5, .inr (4, [.int (p0 &&& (65534 : Int32)), .ref q10_0, .ref q10_1, .ref q10_2, .int 0, .int 0])), (q10_0, .inl (k.1, 16, .inl (fun _ => 0))), (q10_1, .inl (k.1, 16, .inl (fun _ => 0))), (q10_2, .inl (k.1, 16, .inl (fun _ => 0))), (q17, .inr (0, [.null, .int 0, .int 0, .int 0]))] := hD
  refine W.widen (k := 5) (n := 58) (by omega) (by omega) ?_
  refine lv_dup hx hb d_dv_init_20 rfl ?_
  refine lv_aload_n hx hb d_dv_init_21 rfl (lv_at hl 0 rfl) ?_
  refine va_get (D := D) (ci := 1) (v := .ref q5) (C := R_dv) (T := T_dv) (N := 4) hx hb hts iu_dv hown hK hP 0 rfl rfl 0 (by decide) (hts _ m_106) (fun _ h9 => h9) rfl d_dv_init_22 ?_
  refine lv_iconst (v := (0 : Int32)) hx hb d_dv_init_25 (by decide) ?_
  refine fn_c (rn_IN (own := "TrapHart$Devices") (index := 20) (n := 2) (As := [.ref q5, .int (0 : Int32)]) (rest := [.ref q17, .ref h0]) (isC := [5]) (ws := [(h0, .inr (1, [.ref q5, .null, .null, .null])), (q5, .inr (4, [.int (p0 &&& (65534 : Int32)), .ref q10_0, .ref q10_1, .ref q10_2, .int 0, .int 0])), (q10_0, .inl (k.1, 16, .inl (fun _ => 0))), (q10_1, .inl (k.1, 16, .inl (fun _ => 0))), (q10_2, .inl (k.1, 16, .inl (fun _ => 0))), (q17, .inr (0, [.null, .int 0, .int 0, .int 0]))]) (wc := [(q17, .inr (0, [.null, .int 0, .int 0, .int 0]))]) ⟨hx, hb, hml, hown, hts⟩ (c_ct_init l D k q17 q5 H.size (0 : Int32)) n_66 m_67 m_4 m_68 rfl rfl rfl (by decide +kernel) ⟨Nat.le_of_ble_eq_true rfl, Nat.le_of_ble_eq_true rfl⟩ hP hK hD hN hV hS hA rfl (by decide) rfl rfl hl.1 rfl (lv_room (Nat.le_of_ble_eq_true rfl)) d_dv_init_26 ⟨Nat.le_of_ble_eq_true rfl, Nat.le_of_ble_eq_true rfl⟩) hP hD hS hA [5] [0, 1, 2, 3, 4] (wr := [(h0, .inr (1, [.ref q5, .null, .null, .null])), (q5, .inr (4, [.int (p0 &&& (65534 : Int32)), .ref q10_0, .ref q10_1, .ref q10_2, .int 0, .int 0])), (q10_0, .inl (k.1, 16, .inl (fun _ => 0))), (q10_1, .inl (k.1, 16, .inl (fun _ => 0))), (q10_2, .inl (k.1, 16, .inl (fun _ => 0)))]) rfl rfl (by decide) (by decide) (fun u H locs hP hD hS => ?_)
  have hP : va_P D cls [(h0, .inr (1, [.ref q5, .null, .null, .null])), (q5, .inr (4, [.int (p0 &&& (65534 : Int32)), .ref q10_0, .ref q10_1, .ref q10_2, .int 0, .int 0])), (q10_0, .inl (k.1, 16, .inl (fun _ => 0))), (q10_1, .inl (k.1, 16, .inl (fun _ => 0))), (q10_2, .inl (k.1, 16, .inl (fun _ => 0))), (q17, .inr (0, [.ref q5, .int ((0 : Int32) + (1 : Int32)), .int 0, .int 0]))] H := hP
  have hD : va_D A [(h0, .inr (1, [.ref q5, .null, .null, .null])), (q5, .inr (4, [.int (p0 &&& (65534 : Int32)), .ref q10_0, .ref q10_1, .ref q10_2, .int 0, .int 0])), (q10_0, .inl (k.1, 16, .inl (fun _ => 0))), (q10_1, .inl (k.1, 16, .inl (fun _ => 0))), (q10_2, .inl (k.1, 16, .inl (fun _ => 0))), (q17, .inr (0, [.ref q5, .int ((0 : Int32) + (1 : Int32)), .int 0, .int 0]))] := hD
  refine W.widen (k := 5) (n := 58) (by omega) (by omega) ?_
  refine va_putF (D := D) (ci := 1) (v := .ref q17) (ty := .object "TrapHart$Context") (C := R_dv) (T := T_dv) (N := 4) hx hb hts iu_dv t_dv tk_dv nm_dv hown hK hP hD hS 0 rfl rfl 1 (by decide) (hts _ m_108) (fun _ h9 => h9) rfl hin rfl (by decide +kernel) rfl rfl (Nat.le_of_ble_eq_true rfl) d_dv_init_29 (fun H locs hP hD hS => ?_)
  have hP : va_P D cls [(h0, .inr (1, [.ref q5, .ref q17, .null, .null])), (q5, .inr (4, [.int (p0 &&& (65534 : Int32)), .ref q10_0, .ref q10_1, .ref q10_2, .int 0, .int 0])), (q10_0, .inl (k.1, 16, .inl (fun _ => 0))), (q10_1, .inl (k.1, 16, .inl (fun _ => 0))), (q10_2, .inl (k.1, 16, .inl (fun _ => 0))), (q17, .inr (0, [.ref q5, .int ((0 : Int32) + (1 : Int32)), .int 0, .int 0]))] H := hP
  have hD : va_D A [(h0, .inr (1, [.ref q5, .ref q17, .null, .null])), (q5, .inr (4, [.int (p0 &&& (65534 : Int32)), .ref q10_0, .ref q10_1, .ref q10_2, .int 0, .int 0])), (q10_0, .inl (k.1, 16, .inl (fun _ => 0))), (q10_1, .inl (k.1, 16, .inl (fun _ => 0))), (q10_2, .inl (k.1, 16, .inl (fun _ => 0))), (q17, .inr (0, [.ref q5, .int ((0 : Int32) + (1 : Int32)), .int 0, .int 0]))] := hD
  refine lv_aload_n hx hb d_dv_init_32 rfl (lv_at hl 0 rfl) ?_
  refine va_new (ci := 0) (fs := [.null, .int 0, .int 0, .int 0]) (C := R_ct) (T := T_ct) (N := 4) hx hb hts iu_ct t_ct tk_ct hown (hts _ m_64) (hts _ m_65) (hts _ m_4) hK hP hD hS hA rfl (fun j hj => by rcases (show j = 0 ∨ j = 1 ∨ j = 2 ∨ j = 3 by omega) with rfl | rfl | rfl | rfl <;> rfl) (Nat.le_of_ble_eq_true rfl) (Nat.le_of_ble_eq_true rfl) d_dv_init_33 (fun q33 H hP hD hS => ?_)
  have hP : va_P D cls [(h0, .inr (1, [.ref q5, .ref q17, .null, .null])), (q5, .inr (4, [.int (p0 &&& (65534 : Int32)), .ref q10_0, .ref q10_1, .ref q10_2, .int 0, .int 0])), (q10_0, .inl (k.1, 16, .inl (fun _ => 0))), (q10_1, .inl (k.1, 16, .inl (fun _ => 0))), (q10_2, .inl (k.1, 16, .inl (fun _ => 0))), (q17, .inr (0, [.ref q5, .int ((0 : Int32) + (1 : Int32)), .int 0, .int 0])), (q33, .inr (0, [.null, .int 0, .int 0, .int 0]))] H := hP
  have hD : va_D A [(h0, .inr (1, [.ref q5, .ref q17, .null, .null])), (q5, .inr (4, [.int (p0 &&& (65534 : Int32)), .ref q10_0, .ref q10_1, .ref q10_2, .int 0, .int 0])), (q10_0, .inl (k.1, 16, .inl (fun _ => 0))), (q10_1, .inl (k.1, 16, .inl (fun _ => 0))), (q10_2, .inl (k.1, 16, .inl (fun _ => 0))), (q17, .inr (0, [.ref q5, .int ((0 : Int32) + (1 : Int32)), .int 0, .int 0])), (q33, .inr (0, [.null, .int 0, .int 0, .int 0]))] := hD
  refine W.widen (k := 6) (n := 62) (by omega) (by omega) ?_
  refine lv_dup hx hb d_dv_init_36 rfl ?_
  refine lv_aload_n hx hb d_dv_init_37 rfl (lv_at hl 0 rfl) ?_
  refine va_get (D := D) (ci := 1) (v := .ref q5) (C := R_dv) (T := T_dv) (N := 4) hx hb hts iu_dv hown hK hP 0 rfl rfl 0 (by decide) (hts _ m_106) (fun _ h9 => h9) rfl d_dv_init_38 ?_
  refine lv_iconst (v := (1 : Int32)) hx hb d_dv_init_41 (by decide) ?_
  refine fn_c (rn_IN (own := "TrapHart$Devices") (index := 20) (n := 2) (As := [.ref q5, .int (1 : Int32)]) (rest := [.ref q33, .ref h0]) (isC := [6]) (ws := [(h0, .inr (1, [.ref q5, .ref q17, .null, .null])), (q5, .inr (4, [.int (p0 &&& (65534 : Int32)), .ref q10_0, .ref q10_1, .ref q10_2, .int 0, .int 0])), (q10_0, .inl (k.1, 16, .inl (fun _ => 0))), (q10_1, .inl (k.1, 16, .inl (fun _ => 0))), (q10_2, .inl (k.1, 16, .inl (fun _ => 0))), (q17, .inr (0, [.ref q5, .int ((0 : Int32) + (1 : Int32)), .int 0, .int 0])), (q33, .inr (0, [.null, .int 0, .int 0, .int 0]))]) (wc := [(q33, .inr (0, [.null, .int 0, .int 0, .int 0]))]) ⟨hx, hb, hml, hown, hts⟩ (c_ct_init l D k q33 q5 H.size (1 : Int32)) n_66 m_67 m_4 m_68 rfl rfl rfl (by decide +kernel) ⟨Nat.le_of_ble_eq_true rfl, Nat.le_of_ble_eq_true rfl⟩ hP hK hD hN hV hS hA rfl (by decide) rfl rfl hl.1 rfl (lv_room (Nat.le_of_ble_eq_true rfl)) d_dv_init_42 ⟨Nat.le_of_ble_eq_true rfl, Nat.le_of_ble_eq_true rfl⟩) hP hD hS hA [6] [0, 1, 2, 3, 4, 5] (wr := [(h0, .inr (1, [.ref q5, .ref q17, .null, .null])), (q5, .inr (4, [.int (p0 &&& (65534 : Int32)), .ref q10_0, .ref q10_1, .ref q10_2, .int 0, .int 0])), (q10_0, .inl (k.1, 16, .inl (fun _ => 0))), (q10_1, .inl (k.1, 16, .inl (fun _ => 0))), (q10_2, .inl (k.1, 16, .inl (fun _ => 0))), (q17, .inr (0, [.ref q5, .int ((0 : Int32) + (1 : Int32)), .int 0, .int 0]))]) rfl rfl (by decide) (by decide) (fun u H locs hP hD hS => ?_)
  have hP : va_P D cls [(h0, .inr (1, [.ref q5, .ref q17, .null, .null])), (q5, .inr (4, [.int (p0 &&& (65534 : Int32)), .ref q10_0, .ref q10_1, .ref q10_2, .int 0, .int 0])), (q10_0, .inl (k.1, 16, .inl (fun _ => 0))), (q10_1, .inl (k.1, 16, .inl (fun _ => 0))), (q10_2, .inl (k.1, 16, .inl (fun _ => 0))), (q17, .inr (0, [.ref q5, .int ((0 : Int32) + (1 : Int32)), .int 0, .int 0])), (q33, .inr (0, [.ref q5, .int ((1 : Int32) + (1 : Int32)), .int 0, .int 0]))] H := hP
  have hD : va_D A [(h0, .inr (1, [.ref q5, .ref q17, .null, .null])), (q5, .inr (4, [.int (p0 &&& (65534 : Int32)), .ref q10_0, .ref q10_1, .ref q10_2, .int 0, .int 0])), (q10_0, .inl (k.1, 16, .inl (fun _ => 0))), (q10_1, .inl (k.1, 16, .inl (fun _ => 0))), (q10_2, .inl (k.1, 16, .inl (fun _ => 0))), (q17, .inr (0, [.ref q5, .int ((0 : Int32) + (1 : Int32)), .int 0, .int 0])), (q33, .inr (0, [.ref q5, .int ((1 : Int32) + (1 : Int32)), .int 0, .int 0]))] := hD
  refine W.widen (k := 6) (n := 62) (by omega) (by omega) ?_
  refine va_putF (D := D) (ci := 1) (v := .ref q33) (ty := .object "TrapHart$Context") (C := R_dv) (T := T_dv) (N := 4) hx hb hts iu_dv t_dv tk_dv nm_dv hown hK hP hD hS 0 rfl rfl 2 (by decide) (hts _ m_109) (fun _ h9 => h9) rfl hin rfl (by decide +kernel) rfl rfl (Nat.le_of_ble_eq_true rfl) d_dv_init_45 (fun H locs hP hD hS => ?_)
  have hP : va_P D cls [(h0, .inr (1, [.ref q5, .ref q17, .ref q33, .null])), (q5, .inr (4, [.int (p0 &&& (65534 : Int32)), .ref q10_0, .ref q10_1, .ref q10_2, .int 0, .int 0])), (q10_0, .inl (k.1, 16, .inl (fun _ => 0))), (q10_1, .inl (k.1, 16, .inl (fun _ => 0))), (q10_2, .inl (k.1, 16, .inl (fun _ => 0))), (q17, .inr (0, [.ref q5, .int ((0 : Int32) + (1 : Int32)), .int 0, .int 0])), (q33, .inr (0, [.ref q5, .int ((1 : Int32) + (1 : Int32)), .int 0, .int 0]))] H := hP
  have hD : va_D A [(h0, .inr (1, [.ref q5, .ref q17, .ref q33, .null])), (q5, .inr (4, [.int (p0 &&& (65534 : Int32)), .ref q10_0, .ref q10_1, .ref q10_2, .int 0, .int 0])), (q10_0, .inl (k.1, 16, .inl (fun _ => 0))), (q10_1, .inl (k.1, 16, .inl (fun _ => 0))), (q10_2, .inl (k.1, 16, .inl (fun _ => 0))), (q17, .inr (0, [.ref q5, .int ((0 : Int32) + (1 : Int32)), .int 0, .int 0])), (q33, .inr (0, [.ref q5, .int ((1 : Int32) + (1 : Int32)), .int 0, .int 0]))] := hD
  refine lv_aload_n hx hb d_dv_init_48 rfl (lv_at hl 0 rfl) ?_
  refine va_new (ci := 6) (fs := [.long 0, .long 0, .int 0]) (C := R_tm) (T := T_tm) (N := 3) hx hb hts iu_tm t_tm tk_tm hown (hts _ m_85) (hts _ m_86) (hts _ m_5) hK hP hD hS hA rfl (fun j hj => by rcases (show j = 0 ∨ j = 1 ∨ j = 2 by omega) with rfl | rfl | rfl <;> rfl) (Nat.le_of_ble_eq_true rfl) (Nat.le_of_ble_eq_true rfl) d_dv_init_49 (fun q49 H hP hD hS => ?_)
  have hP : va_P D cls [(h0, .inr (1, [.ref q5, .ref q17, .ref q33, .null])), (q5, .inr (4, [.int (p0 &&& (65534 : Int32)), .ref q10_0, .ref q10_1, .ref q10_2, .int 0, .int 0])), (q10_0, .inl (k.1, 16, .inl (fun _ => 0))), (q10_1, .inl (k.1, 16, .inl (fun _ => 0))), (q10_2, .inl (k.1, 16, .inl (fun _ => 0))), (q17, .inr (0, [.ref q5, .int ((0 : Int32) + (1 : Int32)), .int 0, .int 0])), (q33, .inr (0, [.ref q5, .int ((1 : Int32) + (1 : Int32)), .int 0, .int 0])), (q49, .inr (6, [.long 0, .long 0, .int 0]))] H := hP
  have hD : va_D A [(h0, .inr (1, [.ref q5, .ref q17, .ref q33, .null])), (q5, .inr (4, [.int (p0 &&& (65534 : Int32)), .ref q10_0, .ref q10_1, .ref q10_2, .int 0, .int 0])), (q10_0, .inl (k.1, 16, .inl (fun _ => 0))), (q10_1, .inl (k.1, 16, .inl (fun _ => 0))), (q10_2, .inl (k.1, 16, .inl (fun _ => 0))), (q17, .inr (0, [.ref q5, .int ((0 : Int32) + (1 : Int32)), .int 0, .int 0])), (q33, .inr (0, [.ref q5, .int ((1 : Int32) + (1 : Int32)), .int 0, .int 0])), (q49, .inr (6, [.long 0, .long 0, .int 0]))] := hD
  refine W.widen (k := 7) (n := 65) (by omega) (by omega) ?_
  refine lv_dup hx hb d_dv_init_52 rfl ?_
  refine fn_c (rn_IN (own := "TrapHart$Devices") (index := 32) (n := 0) (As := []) (rest := [.ref q49, .ref h0]) (isC := [7]) (ws := [(h0, .inr (1, [.ref q5, .ref q17, .ref q33, .null])), (q5, .inr (4, [.int (p0 &&& (65534 : Int32)), .ref q10_0, .ref q10_1, .ref q10_2, .int 0, .int 0])), (q10_0, .inl (k.1, 16, .inl (fun _ => 0))), (q10_1, .inl (k.1, 16, .inl (fun _ => 0))), (q10_2, .inl (k.1, 16, .inl (fun _ => 0))), (q17, .inr (0, [.ref q5, .int ((0 : Int32) + (1 : Int32)), .int 0, .int 0])), (q33, .inr (0, [.ref q5, .int ((1 : Int32) + (1 : Int32)), .int 0, .int 0])), (q49, .inr (6, [.long 0, .long 0, .int 0]))]) (wc := [(q49, .inr (6, [.long 0, .long 0, .int 0]))]) ⟨hx, hb, hml, hown, hts⟩ (c_tm_init l D k q49 H.size) n_87 m_88 m_5 m_89 rfl rfl rfl (by decide +kernel) ⟨Nat.le_of_ble_eq_true rfl, Nat.le_of_ble_eq_true rfl⟩ hP hK hD hN hV hS hA rfl (by decide) rfl rfl hl.1 rfl (lv_room (Nat.le_of_ble_eq_true rfl)) d_dv_init_53 ⟨Nat.le_of_ble_eq_true rfl, Nat.le_of_ble_eq_true rfl⟩) hP hD hS hA [7] [0, 1, 2, 3, 4, 5, 6] (wr := [(h0, .inr (1, [.ref q5, .ref q17, .ref q33, .null])), (q5, .inr (4, [.int (p0 &&& (65534 : Int32)), .ref q10_0, .ref q10_1, .ref q10_2, .int 0, .int 0])), (q10_0, .inl (k.1, 16, .inl (fun _ => 0))), (q10_1, .inl (k.1, 16, .inl (fun _ => 0))), (q10_2, .inl (k.1, 16, .inl (fun _ => 0))), (q17, .inr (0, [.ref q5, .int ((0 : Int32) + (1 : Int32)), .int 0, .int 0])), (q33, .inr (0, [.ref q5, .int ((1 : Int32) + (1 : Int32)), .int 0, .int 0]))]) rfl rfl (by decide) (by decide) (fun u H locs hP hD hS => ?_)
  have hP : va_P D cls [(h0, .inr (1, [.ref q5, .ref q17, .ref q33, .null])), (q5, .inr (4, [.int (p0 &&& (65534 : Int32)), .ref q10_0, .ref q10_1, .ref q10_2, .int 0, .int 0])), (q10_0, .inl (k.1, 16, .inl (fun _ => 0))), (q10_1, .inl (k.1, 16, .inl (fun _ => 0))), (q10_2, .inl (k.1, 16, .inl (fun _ => 0))), (q17, .inr (0, [.ref q5, .int ((0 : Int32) + (1 : Int32)), .int 0, .int 0])), (q33, .inr (0, [.ref q5, .int ((1 : Int32) + (1 : Int32)), .int 0, .int 0])), (q49, .inr (6, [.long (0 : Int64), .long (-1 : Int64), .int (0 : Int32)]))] H := hP
  have hD : va_D A [(h0, .inr (1, [.ref q5, .ref q17, .ref q33, .null])), (q5, .inr (4, [.int (p0 &&& (65534 : Int32)), .ref q10_0, .ref q10_1, .ref q10_2, .int 0, .int 0])), (q10_0, .inl (k.1, 16, .inl (fun _ => 0))), (q10_1, .inl (k.1, 16, .inl (fun _ => 0))), (q10_2, .inl (k.1, 16, .inl (fun _ => 0))), (q17, .inr (0, [.ref q5, .int ((0 : Int32) + (1 : Int32)), .int 0, .int 0])), (q33, .inr (0, [.ref q5, .int ((1 : Int32) + (1 : Int32)), .int 0, .int 0])), (q49, .inr (6, [.long (0 : Int64), .long (-1 : Int64), .int (0 : Int32)]))] := hD
  refine W.widen (k := 7) (n := 65) (by omega) (by omega) ?_
  refine va_putF (D := D) (ci := 1) (v := .ref q49) (ty := .object "TrapHart$Timer") (C := R_dv) (T := T_dv) (N := 4) hx hb hts iu_dv t_dv tk_dv nm_dv hown hK hP hD hS 0 rfl rfl 3 (by decide) (hts _ m_110) (fun _ h9 => h9) rfl hin rfl (by decide +kernel) rfl rfl (Nat.le_of_ble_eq_true rfl) d_dv_init_56 (fun H locs hP hD hS => ?_)
  have hP : va_P D cls [(h0, .inr (1, [.ref q5, .ref q17, .ref q33, .ref q49])), (q5, .inr (4, [.int (p0 &&& (65534 : Int32)), .ref q10_0, .ref q10_1, .ref q10_2, .int 0, .int 0])), (q10_0, .inl (k.1, 16, .inl (fun _ => 0))), (q10_1, .inl (k.1, 16, .inl (fun _ => 0))), (q10_2, .inl (k.1, 16, .inl (fun _ => 0))), (q17, .inr (0, [.ref q5, .int ((0 : Int32) + (1 : Int32)), .int 0, .int 0])), (q33, .inr (0, [.ref q5, .int ((1 : Int32) + (1 : Int32)), .int 0, .int 0])), (q49, .inr (6, [.long (0 : Int64), .long (-1 : Int64), .int (0 : Int32)]))] H := hP
  have hD : va_D A [(h0, .inr (1, [.ref q5, .ref q17, .ref q33, .ref q49])), (q5, .inr (4, [.int (p0 &&& (65534 : Int32)), .ref q10_0, .ref q10_1, .ref q10_2, .int 0, .int 0])), (q10_0, .inl (k.1, 16, .inl (fun _ => 0))), (q10_1, .inl (k.1, 16, .inl (fun _ => 0))), (q10_2, .inl (k.1, 16, .inl (fun _ => 0))), (q17, .inr (0, [.ref q5, .int ((0 : Int32) + (1 : Int32)), .int 0, .int 0])), (q33, .inr (0, [.ref q5, .int ((1 : Int32) + (1 : Int32)), .int 0, .int 0])), (q49, .inr (6, [.long (0 : Int64), .long (-1 : Int64), .int (0 : Int32)]))] := hD
  exact rt_c (q5, q10_0, q10_1, q10_2, q17, q33, q49) hx hb hr hlocks hP hD hK hS [0, 1, 2, 3, 4, 5, 6, 7] rfl (by decide) rfl d_dv_init_59
set_option maxHeartbeats 4000000 in
set_option maxRecDepth 100000 in
theorem c_st_init (l : Launch) (D : va_G) (k : k3) (h0 : Nat) (sz : Nat) : Met l y_st_init (Cond.code y_st_init b_st_init 1 none :: uW) ({ frames := 1, cells := 0, slots := 0, locals := 12 }) (va_Pc [.ref h0] (pr_ D k sz [(h0, .inr (5, [.int 0]))])) (va_Qv (fun (_ : Unit) => True) (fun u t => po_ D k (va_A [(h0, .inr (5, [.int 0]))] sz) [(h0, .inr (5, [.int 0]))] t) (va_A [(h0, .inr (5, [.int 0]))] sz)) 0 0 (va_A [(h0, .inr (5, [.int 0]))] sz) := by
  refine en_ (by decide) ?_
  intro p e s m below meth c hsz hx hb hr hml hown hts hlocks hin hP hK hD hN hV
  subst hsz
  generalize hAe : va_A [(h0, .inr (5, [.int 0]))] s.heap.size = A at hD hV ⊢
  have hA : ∀ q : Nat, s.heap.size ≤ q → A q := fun q h => by rw [← hAe]; exact Or.inr h
  have hS : va_S A s.heap s.heap [] := va_S.rf
  have hl := lv_entry ([.ref h0]) (n := 1) (Nat.le_of_ble_eq_true rfl)
  rw [lg_entry_eq]
  generalize (lg_sl ([.ref h0]) ++ List.replicate (1 - (lg_sl ([.ref h0])).length) Slot.unset).toArray = ls at hl ⊢
  have hl : lv_has ls 1 [(0, .ref h0)] := hl
  obtain ⟨H, hH⟩ : ∃ z, z = s.heap := ⟨_, rfl⟩
  have hP : va_P D cls [(h0, .inr (5, [.int 0]))] H := by rw [hH]; exact hP
  have hS : va_S A s.heap H [] := by rw [hH]; exact hS
  refine wH_ hH ?_
  refine lv_aload_n hx hb d_st_init_0 rfl (lv_at hl 0 rfl) ?_
  refine W.objInit hx hb hown (hts _ m_132) (hts _ m_24) (hts _ m_25) rfl (by rw [hml]; exact hl.1) rfl d_st_init_1 (Nat.le_of_ble_eq_true rfl) (Nat.le_of_ble_eq_true rfl) ?_
  refine W.eq (g2 := F0 m 4 ls []) rfl ?_
  exact rt_c () hx hb hr hlocks hP hD hK hS [0] rfl (by decide) rfl d_st_init_4
set_option maxHeartbeats 4000000 in
set_option maxRecDepth 100000 in
theorem c_hd_init (l : Launch) (D : va_G) (k : k3) (h0 : Nat) (sz : Nat) : Met l y_hd_init (Cond.code y_hd_init b_hd_init 1 none :: uW) ({ frames := 1, cells := 0, slots := 0, locals := 12 }) (va_Pc [.ref h0] (pr_ D k sz [(h0, .inr (2, [.int 0, .int 0, .int 0]))])) (va_Qv (fun (_ : Unit) => True) (fun u t => po_ D k (va_A [(h0, .inr (2, [.int 0, .int 0, .int 0]))] sz) [(h0, .inr (2, [.int 0, .int 0, .int 0]))] t) (va_A [(h0, .inr (2, [.int 0, .int 0, .int 0]))] sz)) 0 0 (va_A [(h0, .inr (2, [.int 0, .int 0, .int 0]))] sz) := by
  refine en_ (by decide) ?_
  intro p e s m below meth c hsz hx hb hr hml hown hts hlocks hin hP hK hD hN hV
  subst hsz
  generalize hAe : va_A [(h0, .inr (2, [.int 0, .int 0, .int 0]))] s.heap.size = A at hD hV ⊢
  have hA : ∀ q : Nat, s.heap.size ≤ q → A q := fun q h => by rw [← hAe]; exact Or.inr h
  have hS : va_S A s.heap s.heap [] := va_S.rf
  have hl := lv_entry ([.ref h0]) (n := 1) (Nat.le_of_ble_eq_true rfl)
  rw [lg_entry_eq]
  generalize (lg_sl ([.ref h0]) ++ List.replicate (1 - (lg_sl ([.ref h0])).length) Slot.unset).toArray = ls at hl ⊢
  have hl : lv_has ls 1 [(0, .ref h0)] := hl
  obtain ⟨H, hH⟩ : ∃ z, z = s.heap := ⟨_, rfl⟩
  have hP : va_P D cls [(h0, .inr (2, [.int 0, .int 0, .int 0]))] H := by rw [hH]; exact hP
  have hS : va_S A s.heap H [] := by rw [hH]; exact hS
  refine wH_ hH ?_
  refine lv_aload_n hx hb d_hd_init_0 rfl (lv_at hl 0 rfl) ?_
  refine W.objInit hx hb hown (hts _ m_143) (hts _ m_24) (hts _ m_25) rfl (by rw [hml]; exact hl.1) rfl d_hd_init_1 (Nat.le_of_ble_eq_true rfl) (Nat.le_of_ble_eq_true rfl) ?_
  refine W.eq (g2 := F0 m 4 ls []) rfl ?_
  exact rt_c () hx hb hr hlocks hP hD hK hS [0] rfl (by decide) rfl d_hd_init_4
set_option maxHeartbeats 4000000 in
set_option maxRecDepth 100000 in
theorem c_rg_init (l : Launch) (D : va_G) (k : k3) (h0 : Nat) (r0 : Nat) (sz : Nat) : Met l y_rg_init (Cond.code y_rg_init b_rg_init 2 none :: uW) ({ frames := 2, cells := 3, slots := 7, locals := 32 }) (va_Pc [.ref h0, .ref r0] (pr_ D k sz [(h0, .inr (3, [.null, .null, .null, .null, .int 0, .int 0, .int 0, .int 0]))])) (va_Qv (fun (_ : Nat × Nat × Nat) => True) (fun u t => po_ D k (va_A [(h0, .inr (3, [.null, .null, .null, .null, .int 0, .int 0, .int 0, .int 0]))] sz) [(h0, .inr (3, [.ref r0, .ref u.1, .ref u.2.1, .ref u.2.2, .int 0, .int 0, .int 0, .int 0])), (u.1, .inr (5, [.int 0])), (u.2.1, .inr (2, [.int 0, .int 0, .int 0])), (u.2.2, .inr (2, [.int 0, .int 0, .int 0]))] t) (va_A [(h0, .inr (3, [.null, .null, .null, .null, .int 0, .int 0, .int 0, .int 0]))] sz)) 3 7 (va_A [(h0, .inr (3, [.null, .null, .null, .null, .int 0, .int 0, .int 0, .int 0]))] sz) := by
  refine en_ (by decide) ?_
  intro p e s m below meth c hsz hx hb hr hml hown hts hlocks hin hP hK hD hN hV
  subst hsz
  generalize hAe : va_A [(h0, .inr (3, [.null, .null, .null, .null, .int 0, .int 0, .int 0, .int 0]))] s.heap.size = A at hD hV ⊢
  have hA : ∀ q : Nat, s.heap.size ≤ q → A q := fun q h => by rw [← hAe]; exact Or.inr h
  have hS : va_S A s.heap s.heap [] := va_S.rf
  have hl := lv_entry ([.ref h0, .ref r0]) (n := 2) (Nat.le_of_ble_eq_true rfl)
  rw [lg_entry_eq]
  generalize (lg_sl ([.ref h0, .ref r0]) ++ List.replicate (2 - (lg_sl ([.ref h0, .ref r0])).length) Slot.unset).toArray = ls at hl ⊢
  have hl : lv_has ls 2 [(0, .ref h0), (1, .ref r0)] := hl
  obtain ⟨H, hH⟩ : ∃ z, z = s.heap := ⟨_, rfl⟩
  have hP : va_P D cls [(h0, .inr (3, [.null, .null, .null, .null, .int 0, .int 0, .int 0, .int 0]))] H := by rw [hH]; exact hP
  have hS : va_S A s.heap H [] := by rw [hH]; exact hS
  refine wH_ hH ?_
  refine lv_aload_n hx hb d_rg_init_0 rfl (lv_at hl 0 rfl) ?_
  refine W.objInit hx hb hown (hts _ m_126) (hts _ m_24) (hts _ m_25) rfl (by rw [hml]; exact hl.1) rfl d_rg_init_1 (Nat.le_of_ble_eq_true rfl) (Nat.le_of_ble_eq_true rfl) ?_
  refine W.eq (g2 := F0 m 4 ls []) rfl ?_
  refine lv_aload_n hx hb d_rg_init_4 rfl (lv_at hl 0 rfl) ?_
  refine va_new (ci := 5) (fs := [.int 0]) (C := R_st) (T := T_st) (N := 1) hx hb hts iu_st t_st tk_st hown (hts _ m_127) (hts _ m_128) (hts _ m_7) hK hP hD hS hA rfl (fun j hj => by rcases (show j = 0 by omega) with rfl <;> rfl) (Nat.le_of_ble_eq_true rfl) (Nat.le_of_ble_eq_true rfl) d_rg_init_5 (fun q5 H hP hD hS => ?_)
  have hP : va_P D cls [(h0, .inr (3, [.null, .null, .null, .null, .int 0, .int 0, .int 0, .int 0])), (q5, .inr (5, [.int 0]))] H := hP
  have hD : va_D A [(h0, .inr (3, [.null, .null, .null, .null, .int 0, .int 0, .int 0, .int 0])), (q5, .inr (5, [.int 0]))] := hD
  refine W.widen (k := 1) (n := 1) (by omega) (by omega) ?_
  refine lv_dup hx hb d_rg_init_8 rfl ?_
  refine fn_c (rn_IN (own := "TrapHart$Registers") (index := 11) (n := 0) (As := []) (rest := [.ref q5, .ref h0]) (isC := [1]) (ws := [(h0, .inr (3, [.null, .null, .null, .null, .int 0, .int 0, .int 0, .int 0])), (q5, .inr (5, [.int 0]))]) (wc := [(q5, .inr (5, [.int 0]))]) ⟨hx, hb, hml, hown, hts⟩ (c_st_init l D k q5 H.size) n_129 m_130 m_7 m_131 rfl rfl rfl (by decide +kernel) ⟨Nat.le_of_ble_eq_true rfl, Nat.le_of_ble_eq_true rfl⟩ hP hK hD hN hV hS hA rfl (by decide) rfl rfl hl.1 rfl (lv_room (Nat.le_of_ble_eq_true rfl)) d_rg_init_9 ⟨Nat.le_of_ble_eq_true rfl, Nat.le_of_ble_eq_true rfl⟩) hP hD hS hA [1] [0] (wr := [(h0, .inr (3, [.null, .null, .null, .null, .int 0, .int 0, .int 0, .int 0]))]) rfl rfl (by decide) (by decide) (fun u H locs hP hD hS => ?_)
  have hP : va_P D cls [(h0, .inr (3, [.null, .null, .null, .null, .int 0, .int 0, .int 0, .int 0])), (q5, .inr (5, [.int 0]))] H := hP
  have hD : va_D A [(h0, .inr (3, [.null, .null, .null, .null, .int 0, .int 0, .int 0, .int 0])), (q5, .inr (5, [.int 0]))] := hD
  refine W.widen (k := 1) (n := 1) (by omega) (by omega) ?_
  refine va_putF (D := D) (ci := 3) (v := .ref q5) (ty := .object "TrapHart$Status") (C := R_rg) (T := T_rg) (N := 8) hx hb hts iu_rg t_rg tk_rg nm_rg hown hK hP hD hS 0 rfl rfl 1 (by decide) (hts _ m_159) (fun _ h9 => h9) rfl hin rfl (by decide +kernel) rfl rfl (Nat.le_of_ble_eq_true rfl) d_rg_init_12 (fun H locs hP hD hS => ?_)
  have hP : va_P D cls [(h0, .inr (3, [.null, .ref q5, .null, .null, .int 0, .int 0, .int 0, .int 0])), (q5, .inr (5, [.int 0]))] H := hP
  have hD : va_D A [(h0, .inr (3, [.null, .ref q5, .null, .null, .int 0, .int 0, .int 0, .int 0])), (q5, .inr (5, [.int 0]))] := hD
  refine lv_aload_n hx hb d_rg_init_15 rfl (lv_at hl 0 rfl) ?_
  refine va_new (ci := 2) (fs := [.int 0, .int 0, .int 0]) (C := R_hd) (T := T_hd) (N := 3) hx hb hts iu_hd t_hd tk_hd hown (hts _ m_138) (hts _ m_139) (hts _ m_8) hK hP hD hS hA rfl (fun j hj => by rcases (show j = 0 ∨ j = 1 ∨ j = 2 by omega) with rfl | rfl | rfl <;> rfl) (Nat.le_of_ble_eq_true rfl) (Nat.le_of_ble_eq_true rfl) d_rg_init_16 (fun q16 H hP hD hS => ?_)
  have hP : va_P D cls [(h0, .inr (3, [.null, .ref q5, .null, .null, .int 0, .int 0, .int 0, .int 0])), (q5, .inr (5, [.int 0])), (q16, .inr (2, [.int 0, .int 0, .int 0]))] H := hP
  have hD : va_D A [(h0, .inr (3, [.null, .ref q5, .null, .null, .int 0, .int 0, .int 0, .int 0])), (q5, .inr (5, [.int 0])), (q16, .inr (2, [.int 0, .int 0, .int 0]))] := hD
  refine W.widen (k := 2) (n := 4) (by omega) (by omega) ?_
  refine lv_dup hx hb d_rg_init_19 rfl ?_
  refine fn_c (rn_IN (own := "TrapHart$Registers") (index := 20) (n := 0) (As := []) (rest := [.ref q16, .ref h0]) (isC := [2]) (ws := [(h0, .inr (3, [.null, .ref q5, .null, .null, .int 0, .int 0, .int 0, .int 0])), (q5, .inr (5, [.int 0])), (q16, .inr (2, [.int 0, .int 0, .int 0]))]) (wc := [(q16, .inr (2, [.int 0, .int 0, .int 0]))]) ⟨hx, hb, hml, hown, hts⟩ (c_hd_init l D k q16 H.size) n_140 m_141 m_8 m_142 rfl rfl rfl (by decide +kernel) ⟨Nat.le_of_ble_eq_true rfl, Nat.le_of_ble_eq_true rfl⟩ hP hK hD hN hV hS hA rfl (by decide) rfl rfl hl.1 rfl (lv_room (Nat.le_of_ble_eq_true rfl)) d_rg_init_20 ⟨Nat.le_of_ble_eq_true rfl, Nat.le_of_ble_eq_true rfl⟩) hP hD hS hA [2] [0, 1] (wr := [(h0, .inr (3, [.null, .ref q5, .null, .null, .int 0, .int 0, .int 0, .int 0])), (q5, .inr (5, [.int 0]))]) rfl rfl (by decide) (by decide) (fun u H locs hP hD hS => ?_)
  have hP : va_P D cls [(h0, .inr (3, [.null, .ref q5, .null, .null, .int 0, .int 0, .int 0, .int 0])), (q5, .inr (5, [.int 0])), (q16, .inr (2, [.int 0, .int 0, .int 0]))] H := hP
  have hD : va_D A [(h0, .inr (3, [.null, .ref q5, .null, .null, .int 0, .int 0, .int 0, .int 0])), (q5, .inr (5, [.int 0])), (q16, .inr (2, [.int 0, .int 0, .int 0]))] := hD
  refine W.widen (k := 2) (n := 4) (by omega) (by omega) ?_
  refine va_putF (D := D) (ci := 3) (v := .ref q16) (ty := .object "TrapHart$Handler") (C := R_rg) (T := T_rg) (N := 8) hx hb hts iu_rg t_rg tk_rg nm_rg hown hK hP hD hS 0 rfl rfl 2 (by decide) (hts _ m_161) (fun _ h9 => h9) rfl hin rfl (by decide +kernel) rfl rfl (Nat.le_of_ble_eq_true rfl) d_rg_init_23 (fun H locs hP hD hS => ?_)
  have hP : va_P D cls [(h0, .inr (3, [.null, .ref q5, .ref q16, .null, .int 0, .int 0, .int 0, .int 0])), (q5, .inr (5, [.int 0])), (q16, .inr (2, [.int 0, .int 0, .int 0]))] H := hP
  have hD : va_D A [(h0, .inr (3, [.null, .ref q5, .ref q16, .null, .int 0, .int 0, .int 0, .int 0])), (q5, .inr (5, [.int 0])), (q16, .inr (2, [.int 0, .int 0, .int 0]))] := hD
  refine lv_aload_n hx hb d_rg_init_26 rfl (lv_at hl 0 rfl) ?_
  refine va_new (ci := 2) (fs := [.int 0, .int 0, .int 0]) (C := R_hd) (T := T_hd) (N := 3) hx hb hts iu_hd t_hd tk_hd hown (hts _ m_138) (hts _ m_139) (hts _ m_8) hK hP hD hS hA rfl (fun j hj => by rcases (show j = 0 ∨ j = 1 ∨ j = 2 by omega) with rfl | rfl | rfl <;> rfl) (Nat.le_of_ble_eq_true rfl) (Nat.le_of_ble_eq_true rfl) d_rg_init_27 (fun q27 H hP hD hS => ?_)
  have hP : va_P D cls [(h0, .inr (3, [.null, .ref q5, .ref q16, .null, .int 0, .int 0, .int 0, .int 0])), (q5, .inr (5, [.int 0])), (q16, .inr (2, [.int 0, .int 0, .int 0])), (q27, .inr (2, [.int 0, .int 0, .int 0]))] H := hP
  have hD : va_D A [(h0, .inr (3, [.null, .ref q5, .ref q16, .null, .int 0, .int 0, .int 0, .int 0])), (q5, .inr (5, [.int 0])), (q16, .inr (2, [.int 0, .int 0, .int 0])), (q27, .inr (2, [.int 0, .int 0, .int 0]))] := hD
  refine W.widen (k := 3) (n := 7) (by omega) (by omega) ?_
  refine lv_dup hx hb d_rg_init_30 rfl ?_
  refine fn_c (rn_IN (own := "TrapHart$Registers") (index := 20) (n := 0) (As := []) (rest := [.ref q27, .ref h0]) (isC := [3]) (ws := [(h0, .inr (3, [.null, .ref q5, .ref q16, .null, .int 0, .int 0, .int 0, .int 0])), (q5, .inr (5, [.int 0])), (q16, .inr (2, [.int 0, .int 0, .int 0])), (q27, .inr (2, [.int 0, .int 0, .int 0]))]) (wc := [(q27, .inr (2, [.int 0, .int 0, .int 0]))]) ⟨hx, hb, hml, hown, hts⟩ (c_hd_init l D k q27 H.size) n_140 m_141 m_8 m_142 rfl rfl rfl (by decide +kernel) ⟨Nat.le_of_ble_eq_true rfl, Nat.le_of_ble_eq_true rfl⟩ hP hK hD hN hV hS hA rfl (by decide) rfl rfl hl.1 rfl (lv_room (Nat.le_of_ble_eq_true rfl)) d_rg_init_31 ⟨Nat.le_of_ble_eq_true rfl, Nat.le_of_ble_eq_true rfl⟩) hP hD hS hA [3] [0, 1, 2] (wr := [(h0, .inr (3, [.null, .ref q5, .ref q16, .null, .int 0, .int 0, .int 0, .int 0])), (q5, .inr (5, [.int 0])), (q16, .inr (2, [.int 0, .int 0, .int 0]))]) rfl rfl (by decide) (by decide) (fun u H locs hP hD hS => ?_)
  have hP : va_P D cls [(h0, .inr (3, [.null, .ref q5, .ref q16, .null, .int 0, .int 0, .int 0, .int 0])), (q5, .inr (5, [.int 0])), (q16, .inr (2, [.int 0, .int 0, .int 0])), (q27, .inr (2, [.int 0, .int 0, .int 0]))] H := hP
  have hD : va_D A [(h0, .inr (3, [.null, .ref q5, .ref q16, .null, .int 0, .int 0, .int 0, .int 0])), (q5, .inr (5, [.int 0])), (q16, .inr (2, [.int 0, .int 0, .int 0])), (q27, .inr (2, [.int 0, .int 0, .int 0]))] := hD
  refine W.widen (k := 3) (n := 7) (by omega) (by omega) ?_
  refine va_putF (D := D) (ci := 3) (v := .ref q27) (ty := .object "TrapHart$Handler") (C := R_rg) (T := T_rg) (N := 8) hx hb hts iu_rg t_rg tk_rg nm_rg hown hK hP hD hS 0 rfl rfl 3 (by decide) (hts _ m_163) (fun _ h9 => h9) rfl hin rfl (by decide +kernel) rfl rfl (Nat.le_of_ble_eq_true rfl) d_rg_init_34 (fun H locs hP hD hS => ?_)
  have hP : va_P D cls [(h0, .inr (3, [.null, .ref q5, .ref q16, .ref q27, .int 0, .int 0, .int 0, .int 0])), (q5, .inr (5, [.int 0])), (q16, .inr (2, [.int 0, .int 0, .int 0])), (q27, .inr (2, [.int 0, .int 0, .int 0]))] H := hP
  have hD : va_D A [(h0, .inr (3, [.null, .ref q5, .ref q16, .ref q27, .int 0, .int 0, .int 0, .int 0])), (q5, .inr (5, [.int 0])), (q16, .inr (2, [.int 0, .int 0, .int 0])), (q27, .inr (2, [.int 0, .int 0, .int 0]))] := hD
  refine lv_aload_n hx hb d_rg_init_37 rfl (lv_at hl 0 rfl) ?_
  refine lv_aload_n hx hb d_rg_init_38 rfl (lv_at hl 1 rfl) ?_
  refine va_putF (D := D) (ci := 3) (v := .ref r0) (ty := .object "TrapHart$Devices") (C := R_rg) (T := T_rg) (N := 8) hx hb hts iu_rg t_rg tk_rg nm_rg hown hK hP hD hS 0 rfl rfl 0 (by decide) (hts _ m_158) (fun _ h9 => h9) rfl hin rfl (by decide +kernel) rfl rfl (Nat.le_of_ble_eq_true rfl) d_rg_init_39 (fun H locs hP hD hS => ?_)
  have hP : va_P D cls [(h0, .inr (3, [.ref r0, .ref q5, .ref q16, .ref q27, .int 0, .int 0, .int 0, .int 0])), (q5, .inr (5, [.int 0])), (q16, .inr (2, [.int 0, .int 0, .int 0])), (q27, .inr (2, [.int 0, .int 0, .int 0]))] H := hP
  have hD : va_D A [(h0, .inr (3, [.ref r0, .ref q5, .ref q16, .ref q27, .int 0, .int 0, .int 0, .int 0])), (q5, .inr (5, [.int 0])), (q16, .inr (2, [.int 0, .int 0, .int 0])), (q27, .inr (2, [.int 0, .int 0, .int 0]))] := hD
  exact rt_c (q5, q16, q27) hx hb hr hlocks hP hD hK hS [0, 1, 2, 3] rfl (by decide) rfl d_rg_init_42
set_option maxHeartbeats 4000000 in
set_option maxRecDepth 100000 in
theorem c_th_init (l : Launch) (D : va_G) (k : k3) (h0 : Nat) (sz : Nat) (p0 : Int32) : Met l y_th_init (Cond.code y_th_init b_th_init 2 none :: uW) ({ frames := 3, cells := 12, slots := 84, locals := 55 }) (va_Pc [.ref h0, .int p0] (pr_ D k sz [(h0, .inr (7, [.null, .null, .int 0, .int 0]))])) (va_Qv (fun (_ : Nat × Nat × Nat × Nat × Nat × Nat × Nat × Nat × Nat × Nat × Nat × Nat) => True) (fun u t => po_ D k (va_A [(h0, .inr (7, [.null, .null, .int 0, .int 0]))] sz) [(h0, .inr (7, [.ref u.2.1, .ref u.1, .int (3 : Int32), .int (0 : Int32)])), (u.1, .inr (3, [.ref u.2.1, .ref u.2.2.2.2.2.2.2.2.2.1, .ref u.2.2.2.2.2.2.2.2.2.2.1, .ref u.2.2.2.2.2.2.2.2.2.2.2, .int 0, .int 0, .int 0, .int 0])), (u.2.1, .inr (1, [.ref u.2.2.1, .ref u.2.2.2.2.2.2.1, .ref u.2.2.2.2.2.2.2.1, .ref u.2.2.2.2.2.2.2.2.1])), (u.2.2.1, .inr (4, [.int (p0 &&& (65534 : Int32)), .ref u.2.2.2.1, .ref u.2.2.2.2.1, .ref u.2.2.2.2.2.1, .int 0, .int 0])), (u.2.2.2.1, .inl (k.1, 16, .inl (fun _ => 0))), (u.2.2.2.2.1, .inl (k.1, 16, .inl (fun _ => 0))), (u.2.2.2.2.2.1, .inl (k.1, 16, .inl (fun _ => 0))), (u.2.2.2.2.2.2.1, .inr (0, [.ref u.2.2.1, .int ((0 : Int32) + (1 : Int32)), .int 0, .int 0])), (u.2.2.2.2.2.2.2.1, .inr (0, [.ref u.2.2.1, .int ((1 : Int32) + (1 : Int32)), .int 0, .int 0])), (u.2.2.2.2.2.2.2.2.1, .inr (6, [.long (0 : Int64), .long (-1 : Int64), .int (0 : Int32)])), (u.2.2.2.2.2.2.2.2.2.1, .inr (5, [.int 0])), (u.2.2.2.2.2.2.2.2.2.2.1, .inr (2, [.int 0, .int 0, .int 0])), (u.2.2.2.2.2.2.2.2.2.2.2, .inr (2, [.int 0, .int 0, .int 0]))] t) (va_A [(h0, .inr (7, [.null, .null, .int 0, .int 0]))] sz)) 12 84 (va_A [(h0, .inr (7, [.null, .null, .int 0, .int 0]))] sz) := by
  refine en_ (by decide) ?_
  intro p e s m below meth c hsz hx hb hr hml hown hts hlocks hin hP hK hD hN hV
  subst hsz
  generalize hAe : va_A [(h0, .inr (7, [.null, .null, .int 0, .int 0]))] s.heap.size = A at hD hV ⊢
  have hA : ∀ q : Nat, s.heap.size ≤ q → A q := fun q h => by rw [← hAe]; exact Or.inr h
  have hS : va_S A s.heap s.heap [] := va_S.rf
  have hl := lv_entry ([.ref h0, .int p0]) (n := 2) (Nat.le_of_ble_eq_true rfl)
  rw [lg_entry_eq]
  generalize (lg_sl ([.ref h0, .int p0]) ++ List.replicate (2 - (lg_sl ([.ref h0, .int p0])).length) Slot.unset).toArray = ls at hl ⊢
  have hl : lv_has ls 2 [(0, .ref h0), (1, .int p0)] := hl
  obtain ⟨H, hH⟩ : ∃ z, z = s.heap := ⟨_, rfl⟩
  have hP : va_P D cls [(h0, .inr (7, [.null, .null, .int 0, .int 0]))] H := by rw [hH]; exact hP
  have hS : va_S A s.heap H [] := by rw [hH]; exact hS
  refine wH_ hH ?_
  refine lv_aload_n hx hb d_th_init_0 rfl (lv_at hl 0 rfl) ?_
  refine W.objInit hx hb hown (hts _ m_23) (hts _ m_24) (hts _ m_25) rfl (by rw [hml]; exact hl.1) rfl d_th_init_1 (Nat.le_of_ble_eq_true rfl) (Nat.le_of_ble_eq_true rfl) ?_
  refine W.eq (g2 := F0 m 4 ls []) rfl ?_
  refine lv_aload_n hx hb d_th_init_4 rfl (lv_at hl 0 rfl) ?_
  refine va_new (ci := 1) (fs := [.null, .null, .null, .null]) (C := R_dv) (T := T_dv) (N := 4) hx hb hts iu_dv t_dv tk_dv hown (hts _ m_26) (hts _ m_27) (hts _ m_2) hK hP hD hS hA rfl (fun j hj => by rcases (show j = 0 ∨ j = 1 ∨ j = 2 ∨ j = 3 by omega) with rfl | rfl | rfl | rfl <;> rfl) (Nat.le_of_ble_eq_true rfl) (Nat.le_of_ble_eq_true rfl) d_th_init_5 (fun q5 H hP hD hS => ?_)
  have hP : va_P D cls [(h0, .inr (7, [.null, .null, .int 0, .int 0])), (q5, .inr (1, [.null, .null, .null, .null]))] H := hP
  have hD : va_D A [(h0, .inr (7, [.null, .null, .int 0, .int 0])), (q5, .inr (1, [.null, .null, .null, .null]))] := hD
  refine W.widen (k := 1) (n := 4) (by omega) (by omega) ?_
  refine lv_dup hx hb d_th_init_8 rfl ?_
  refine lv_iload_n hx hb d_th_init_9 rfl (lv_at hl 1 rfl) ?_
  refine fn_c (rn_IN (own := "TrapHart") (index := 9) (n := 1) (As := [.int p0]) (rest := [.ref q5, .ref h0]) (isC := [1]) (ws := [(h0, .inr (7, [.null, .null, .int 0, .int 0])), (q5, .inr (1, [.null, .null, .null, .null]))]) (wc := [(q5, .inr (1, [.null, .null, .null, .null]))]) ⟨hx, hb, hml, hown, hts⟩ (c_dv_init l D k q5 H.size p0) n_28 m_29 m_2 m_30 rfl rfl rfl (by decide +kernel) ⟨Nat.le_of_ble_eq_true rfl, Nat.le_of_ble_eq_true rfl⟩ hP hK hD hN hV hS hA rfl (by decide) rfl rfl hl.1 rfl (lv_room (Nat.le_of_ble_eq_true rfl)) d_th_init_10 ⟨Nat.le_of_ble_eq_true rfl, Nat.le_of_ble_eq_true rfl⟩) hP hD hS hA [1] [0] (wr := [(h0, .inr (7, [.null, .null, .int 0, .int 0]))]) rfl rfl (by decide) (by decide) (fun u H locs hP hD hS => ?_)
  obtain ⟨q10_0, q10_1, q10_2, q10_3, q10_4, q10_5, q10_6⟩ := u
  have hP : va_P D cls [(h0, .inr (7, [.null, .null, .int 0, .int 0])), (q5, .inr (1, [.ref q10_0, .ref q10_4, .ref q10_5, .ref q10_6])), (q10_0, .inr (4, [.int (p0 &&& (65534 : Int32)), .ref q10_1, .ref q10_2, .ref q10_3, .int 0, .int 0])), (q10_1, .inl (k.1, 16, .inl (fun _ => 0))), (q10_2, .inl (k.1, 16, .inl (fun _ => 0))), (q10_3, .inl (k.1, 16, .inl (fun _ => 0))), (q10_4, .inr (0, [.ref q10_0, .int ((0 : Int32) + (1 : Int32)), .int 0, .int 0])), (q10_5, .inr (0, [.ref q10_0, .int ((1 : Int32) + (1 : Int32)), .int 0, .int 0])), (q10_6, .inr (6, [.long (0 : Int64), .long (-1 : Int64), .int (0 : Int32)]))] H := hP
  have hD : va_D A [(h0, .inr (7, [.null, .null, .int 0, .int 0])), (q5, .inr (1, [.ref q10_0, .ref q10_4, .ref q10_5, .ref q10_6])), (q10_0, .inr (4, [.int (p0 &&& (65534 : Int32)), .ref q10_1, .ref q10_2, .ref q10_3, .int 0, .int 0])), (q10_1, .inl (k.1, 16, .inl (fun _ => 0))), (q10_2, .inl (k.1, 16, .inl (fun _ => 0))), (q10_3, .inl (k.1, 16, .inl (fun _ => 0))), (q10_4, .inr (0, [.ref q10_0, .int ((0 : Int32) + (1 : Int32)), .int 0, .int 0])), (q10_5, .inr (0, [.ref q10_0, .int ((1 : Int32) + (1 : Int32)), .int 0, .int 0])), (q10_6, .inr (6, [.long (0 : Int64), .long (-1 : Int64), .int (0 : Int32)]))] := hD
  refine W.widen (k := 8) (n := 69) (by omega) (by omega) ?_
  refine va_putF (D := D) (ci := 7) (v := .ref q5) (ty := .object "TrapHart$Devices") (C := R_th) (T := T_th) (N := 4) hx hb hts iu_th t_th tk_th nm_th hown hK hP hD hS 0 rfl rfl 0 (by decide) (hts _ m_188) (fun _ h9 => h9) rfl hin rfl (by decide +kernel) rfl rfl (Nat.le_of_ble_eq_true rfl) d_th_init_13 (fun H locs hP hD hS => ?_)
  have hP : va_P D cls [(h0, .inr (7, [.ref q5, .null, .int 0, .int 0])), (q5, .inr (1, [.ref q10_0, .ref q10_4, .ref q10_5, .ref q10_6])), (q10_0, .inr (4, [.int (p0 &&& (65534 : Int32)), .ref q10_1, .ref q10_2, .ref q10_3, .int 0, .int 0])), (q10_1, .inl (k.1, 16, .inl (fun _ => 0))), (q10_2, .inl (k.1, 16, .inl (fun _ => 0))), (q10_3, .inl (k.1, 16, .inl (fun _ => 0))), (q10_4, .inr (0, [.ref q10_0, .int ((0 : Int32) + (1 : Int32)), .int 0, .int 0])), (q10_5, .inr (0, [.ref q10_0, .int ((1 : Int32) + (1 : Int32)), .int 0, .int 0])), (q10_6, .inr (6, [.long (0 : Int64), .long (-1 : Int64), .int (0 : Int32)]))] H := hP
  have hD : va_D A [(h0, .inr (7, [.ref q5, .null, .int 0, .int 0])), (q5, .inr (1, [.ref q10_0, .ref q10_4, .ref q10_5, .ref q10_6])), (q10_0, .inr (4, [.int (p0 &&& (65534 : Int32)), .ref q10_1, .ref q10_2, .ref q10_3, .int 0, .int 0])), (q10_1, .inl (k.1, 16, .inl (fun _ => 0))), (q10_2, .inl (k.1, 16, .inl (fun _ => 0))), (q10_3, .inl (k.1, 16, .inl (fun _ => 0))), (q10_4, .inr (0, [.ref q10_0, .int ((0 : Int32) + (1 : Int32)), .int 0, .int 0])), (q10_5, .inr (0, [.ref q10_0, .int ((1 : Int32) + (1 : Int32)), .int 0, .int 0])), (q10_6, .inr (6, [.long (0 : Int64), .long (-1 : Int64), .int (0 : Int32)]))] := hD
  refine lv_aload_n hx hb d_th_init_16 rfl (lv_at hl 0 rfl) ?_
  refine va_new (ci := 3) (fs := [.null, .null, .null, .null, .int 0, .int 0, .int 0, .int 0]) (C := R_rg) (T := T_rg) (N := 8) hx hb hts iu_rg t_rg tk_rg hown (hts _ m_121) (hts _ m_122) (hts _ m_6) hK hP hD hS hA rfl (fun j hj => by rcases (show j = 0 ∨ j = 1 ∨ j = 2 ∨ j = 3 ∨ j = 4 ∨ j = 5 ∨ j = 6 ∨ j = 7 by omega) with rfl | rfl | rfl | rfl | rfl | rfl | rfl | rfl <;> rfl) (Nat.le_of_ble_eq_true rfl) (Nat.le_of_ble_eq_true rfl) d_th_init_17 (fun q17 H hP hD hS => ?_)
  have hP : va_P D cls [(h0, .inr (7, [.ref q5, .null, .int 0, .int 0])), (q5, .inr (1, [.ref q10_0, .ref q10_4, .ref q10_5, .ref q10_6])), (q10_0, .inr (4, [.int (p0 &&& (65534 : Int32)), .ref q10_1, .ref q10_2, .ref q10_3, .int 0, .int 0])), (q10_1, .inl (k.1, 16, .inl (fun _ => 0))), (q10_2, .inl (k.1, 16, .inl (fun _ => 0))), (q10_3, .inl (k.1, 16, .inl (fun _ => 0))), (q10_4, .inr (0, [.ref q10_0, .int ((0 : Int32) + (1 : Int32)), .int 0, .int 0])), (q10_5, .inr (0, [.ref q10_0, .int ((1 : Int32) + (1 : Int32)), .int 0, .int 0])), (q10_6, .inr (6, [.long (0 : Int64), .long (-1 : Int64), .int (0 : Int32)])), (q17, .inr (3, [.null, .null, .null, .null, .int 0, .int 0, .int 0, .int 0]))] H := hP
  have hD : va_D A [(h0, .inr (7, [.ref q5, .null, .int 0, .int 0])), (q5, .inr (1, [.ref q10_0, .ref q10_4, .ref q10_5, .ref q10_6])), (q10_0, .inr (4, [.int (p0 &&& (65534 : Int32)), .ref q10_1, .ref q10_2, .ref q10_3, .int 0, .int 0])), (q10_1, .inl (k.1, 16, .inl (fun _ => 0))), (q10_2, .inl (k.1, 16, .inl (fun _ => 0))), (q10_3, .inl (k.1, 16, .inl (fun _ => 0))), (q10_4, .inr (0, [.ref q10_0, .int ((0 : Int32) + (1 : Int32)), .int 0, .int 0])), (q10_5, .inr (0, [.ref q10_0, .int ((1 : Int32) + (1 : Int32)), .int 0, .int 0])), (q10_6, .inr (6, [.long (0 : Int64), .long (-1 : Int64), .int (0 : Int32)])), (q17, .inr (3, [.null, .null, .null, .null, .int 0, .int 0, .int 0, .int 0]))] := hD
  refine W.widen (k := 9) (n := 77) (by omega) (by omega) ?_
  refine lv_dup hx hb d_th_init_20 rfl ?_
  refine lv_aload_n hx hb d_th_init_21 rfl (lv_at hl 0 rfl) ?_
  refine va_get (D := D) (ci := 7) (v := .ref q5) (C := R_th) (T := T_th) (N := 4) hx hb hts iu_th hown hK hP 0 rfl rfl 0 (by decide) (hts _ m_188) (fun _ h9 => h9) rfl d_th_init_22 ?_
  refine fn_c (rn_IN (own := "TrapHart") (index := 20) (n := 1) (As := [.ref q5]) (rest := [.ref q17, .ref h0]) (isC := [9]) (ws := [(h0, .inr (7, [.ref q5, .null, .int 0, .int 0])), (q5, .inr (1, [.ref q10_0, .ref q10_4, .ref q10_5, .ref q10_6])), (q10_0, .inr (4, [.int (p0 &&& (65534 : Int32)), .ref q10_1, .ref q10_2, .ref q10_3, .int 0, .int 0])), (q10_1, .inl (k.1, 16, .inl (fun _ => 0))), (q10_2, .inl (k.1, 16, .inl (fun _ => 0))), (q10_3, .inl (k.1, 16, .inl (fun _ => 0))), (q10_4, .inr (0, [.ref q10_0, .int ((0 : Int32) + (1 : Int32)), .int 0, .int 0])), (q10_5, .inr (0, [.ref q10_0, .int ((1 : Int32) + (1 : Int32)), .int 0, .int 0])), (q10_6, .inr (6, [.long (0 : Int64), .long (-1 : Int64), .int (0 : Int32)])), (q17, .inr (3, [.null, .null, .null, .null, .int 0, .int 0, .int 0, .int 0]))]) (wc := [(q17, .inr (3, [.null, .null, .null, .null, .int 0, .int 0, .int 0, .int 0]))]) ⟨hx, hb, hml, hown, hts⟩ (c_rg_init l D k q17 q5 H.size) n_123 m_124 m_6 m_125 rfl rfl rfl (by decide +kernel) ⟨Nat.le_of_ble_eq_true rfl, Nat.le_of_ble_eq_true rfl⟩ hP hK hD hN hV hS hA rfl (by decide) rfl rfl hl.1 rfl (lv_room (Nat.le_of_ble_eq_true rfl)) d_th_init_25 ⟨Nat.le_of_ble_eq_true rfl, Nat.le_of_ble_eq_true rfl⟩) hP hD hS hA [9] [0, 1, 2, 3, 4, 5, 6, 7, 8] (wr := [(h0, .inr (7, [.ref q5, .null, .int 0, .int 0])), (q5, .inr (1, [.ref q10_0, .ref q10_4, .ref q10_5, .ref q10_6])), (q10_0, .inr (4, [.int (p0 &&& (65534 : Int32)), .ref q10_1, .ref q10_2, .ref q10_3, .int 0, .int 0])), (q10_1, .inl (k.1, 16, .inl (fun _ => 0))), (q10_2, .inl (k.1, 16, .inl (fun _ => 0))), (q10_3, .inl (k.1, 16, .inl (fun _ => 0))), (q10_4, .inr (0, [.ref q10_0, .int ((0 : Int32) + (1 : Int32)), .int 0, .int 0])), (q10_5, .inr (0, [.ref q10_0, .int ((1 : Int32) + (1 : Int32)), .int 0, .int 0])), (q10_6, .inr (6, [.long (0 : Int64), .long (-1 : Int64), .int (0 : Int32)]))]) rfl rfl (by decide) (by decide) (fun u H locs hP hD hS => ?_)
  obtain ⟨q25_0, q25_1, q25_2⟩ := u
  have hP : va_P D cls [(h0, .inr (7, [.ref q5, .null, .int 0, .int 0])), (q5, .inr (1, [.ref q10_0, .ref q10_4, .ref q10_5, .ref q10_6])), (q10_0, .inr (4, [.int (p0 &&& (65534 : Int32)), .ref q10_1, .ref q10_2, .ref q10_3, .int 0, .int 0])), (q10_1, .inl (k.1, 16, .inl (fun _ => 0))), (q10_2, .inl (k.1, 16, .inl (fun _ => 0))), (q10_3, .inl (k.1, 16, .inl (fun _ => 0))), (q10_4, .inr (0, [.ref q10_0, .int ((0 : Int32) + (1 : Int32)), .int 0, .int 0])), (q10_5, .inr (0, [.ref q10_0, .int ((1 : Int32) + (1 : Int32)), .int 0, .int 0])), (q10_6, .inr (6, [.long (0 : Int64), .long (-1 : Int64), .int (0 : Int32)])), (q17, .inr (3, [.ref q5, .ref q25_0, .ref q25_1, .ref q25_2, .int 0, .int 0, .int 0, .int 0])), (q25_0, .inr (5, [.int 0])), (q25_1, .inr (2, [.int 0, .int 0, .int 0])), (q25_2, .inr (2, [.int 0, .int 0, .int 0]))] H := hP
  have hD : va_D A [(h0, .inr (7, [.ref q5, .null, .int 0, .int 0])), (q5, .inr (1, [.ref q10_0, .ref q10_4, .ref q10_5, .ref q10_6])), (q10_0, .inr (4, [.int (p0 &&& (65534 : Int32)), .ref q10_1, .ref q10_2, .ref q10_3, .int 0, .int 0])), (q10_1, .inl (k.1, 16, .inl (fun _ => 0))), (q10_2, .inl (k.1, 16, .inl (fun _ => 0))), (q10_3, .inl (k.1, 16, .inl (fun _ => 0))), (q10_4, .inr (0, [.ref q10_0, .int ((0 : Int32) + (1 : Int32)), .int 0, .int 0])), (q10_5, .inr (0, [.ref q10_0, .int ((1 : Int32) + (1 : Int32)), .int 0, .int 0])), (q10_6, .inr (6, [.long (0 : Int64), .long (-1 : Int64), .int (0 : Int32)])), (q17, .inr (3, [.ref q5, .ref q25_0, .ref q25_1, .ref q25_2, .int 0, .int 0, .int 0, .int 0])), (q25_0, .inr (5, [.int 0])), (q25_1, .inr (2, [.int 0, .int 0, .int 0])), (q25_2, .inr (2, [.int 0, .int 0, .int 0]))] := hD
  refine W.widen (k := 12) (n := 84) (by omega) (by omega) ?_
  refine va_putF (D := D) (ci := 7) (v := .ref q17) (ty := .object "TrapHart$Registers") (C := R_th) (T := T_th) (N := 4) hx hb hts iu_th t_th tk_th nm_th hown hK hP hD hS 0 rfl rfl 1 (by decide) (hts _ m_189) (fun _ h9 => h9) rfl hin rfl (by decide +kernel) rfl rfl (Nat.le_of_ble_eq_true rfl) d_th_init_28 (fun H locs hP hD hS => ?_)
  have hP : va_P D cls [(h0, .inr (7, [.ref q5, .ref q17, .int 0, .int 0])), (q5, .inr (1, [.ref q10_0, .ref q10_4, .ref q10_5, .ref q10_6])), (q10_0, .inr (4, [.int (p0 &&& (65534 : Int32)), .ref q10_1, .ref q10_2, .ref q10_3, .int 0, .int 0])), (q10_1, .inl (k.1, 16, .inl (fun _ => 0))), (q10_2, .inl (k.1, 16, .inl (fun _ => 0))), (q10_3, .inl (k.1, 16, .inl (fun _ => 0))), (q10_4, .inr (0, [.ref q10_0, .int ((0 : Int32) + (1 : Int32)), .int 0, .int 0])), (q10_5, .inr (0, [.ref q10_0, .int ((1 : Int32) + (1 : Int32)), .int 0, .int 0])), (q10_6, .inr (6, [.long (0 : Int64), .long (-1 : Int64), .int (0 : Int32)])), (q17, .inr (3, [.ref q5, .ref q25_0, .ref q25_1, .ref q25_2, .int 0, .int 0, .int 0, .int 0])), (q25_0, .inr (5, [.int 0])), (q25_1, .inr (2, [.int 0, .int 0, .int 0])), (q25_2, .inr (2, [.int 0, .int 0, .int 0]))] H := hP
  have hD : va_D A [(h0, .inr (7, [.ref q5, .ref q17, .int 0, .int 0])), (q5, .inr (1, [.ref q10_0, .ref q10_4, .ref q10_5, .ref q10_6])), (q10_0, .inr (4, [.int (p0 &&& (65534 : Int32)), .ref q10_1, .ref q10_2, .ref q10_3, .int 0, .int 0])), (q10_1, .inl (k.1, 16, .inl (fun _ => 0))), (q10_2, .inl (k.1, 16, .inl (fun _ => 0))), (q10_3, .inl (k.1, 16, .inl (fun _ => 0))), (q10_4, .inr (0, [.ref q10_0, .int ((0 : Int32) + (1 : Int32)), .int 0, .int 0])), (q10_5, .inr (0, [.ref q10_0, .int ((1 : Int32) + (1 : Int32)), .int 0, .int 0])), (q10_6, .inr (6, [.long (0 : Int64), .long (-1 : Int64), .int (0 : Int32)])), (q17, .inr (3, [.ref q5, .ref q25_0, .ref q25_1, .ref q25_2, .int 0, .int 0, .int 0, .int 0])), (q25_0, .inr (5, [.int 0])), (q25_1, .inr (2, [.int 0, .int 0, .int 0])), (q25_2, .inr (2, [.int 0, .int 0, .int 0]))] := hD
  refine lv_aload_n hx hb d_th_init_31 rfl (lv_at hl 0 rfl) ?_
  refine lv_iconst (v := (3 : Int32)) hx hb d_th_init_32 (by decide) ?_
  refine va_put (D := D) (ci := 7) (v := .int (3 : Int32)) (ty := .int) (C := R_th) (T := T_th) (N := 4) hx hb hts iu_th t_th tk_th nm_th hown hK hP hD hS 0 rfl rfl 2 (by decide) (hts _ m_190) (fun _ h9 => h9) rfl (by decide +kernel) rfl rfl (Nat.le_of_ble_eq_true rfl) d_th_init_33 (fun H locs hP hD hS => ?_)
  have hP : va_P D cls [(h0, .inr (7, [.ref q5, .ref q17, .int (3 : Int32), .int 0])), (q5, .inr (1, [.ref q10_0, .ref q10_4, .ref q10_5, .ref q10_6])), (q10_0, .inr (4, [.int (p0 &&& (65534 : Int32)), .ref q10_1, .ref q10_2, .ref q10_3, .int 0, .int 0])), (q10_1, .inl (k.1, 16, .inl (fun _ => 0))), (q10_2, .inl (k.1, 16, .inl (fun _ => 0))), (q10_3, .inl (k.1, 16, .inl (fun _ => 0))), (q10_4, .inr (0, [.ref q10_0, .int ((0 : Int32) + (1 : Int32)), .int 0, .int 0])), (q10_5, .inr (0, [.ref q10_0, .int ((1 : Int32) + (1 : Int32)), .int 0, .int 0])), (q10_6, .inr (6, [.long (0 : Int64), .long (-1 : Int64), .int (0 : Int32)])), (q17, .inr (3, [.ref q5, .ref q25_0, .ref q25_1, .ref q25_2, .int 0, .int 0, .int 0, .int 0])), (q25_0, .inr (5, [.int 0])), (q25_1, .inr (2, [.int 0, .int 0, .int 0])), (q25_2, .inr (2, [.int 0, .int 0, .int 0]))] H := hP
  have hD : va_D A [(h0, .inr (7, [.ref q5, .ref q17, .int (3 : Int32), .int 0])), (q5, .inr (1, [.ref q10_0, .ref q10_4, .ref q10_5, .ref q10_6])), (q10_0, .inr (4, [.int (p0 &&& (65534 : Int32)), .ref q10_1, .ref q10_2, .ref q10_3, .int 0, .int 0])), (q10_1, .inl (k.1, 16, .inl (fun _ => 0))), (q10_2, .inl (k.1, 16, .inl (fun _ => 0))), (q10_3, .inl (k.1, 16, .inl (fun _ => 0))), (q10_4, .inr (0, [.ref q10_0, .int ((0 : Int32) + (1 : Int32)), .int 0, .int 0])), (q10_5, .inr (0, [.ref q10_0, .int ((1 : Int32) + (1 : Int32)), .int 0, .int 0])), (q10_6, .inr (6, [.long (0 : Int64), .long (-1 : Int64), .int (0 : Int32)])), (q17, .inr (3, [.ref q5, .ref q25_0, .ref q25_1, .ref q25_2, .int 0, .int 0, .int 0, .int 0])), (q25_0, .inr (5, [.int 0])), (q25_1, .inr (2, [.int 0, .int 0, .int 0])), (q25_2, .inr (2, [.int 0, .int 0, .int 0]))] := hD
  refine lv_aload_n hx hb d_th_init_36 rfl (lv_at hl 0 rfl) ?_
  refine lv_iconst (v := (0 : Int32)) hx hb d_th_init_37 (by decide) ?_
  refine va_put (D := D) (ci := 7) (v := .int (0 : Int32)) (ty := .int) (C := R_th) (T := T_th) (N := 4) hx hb hts iu_th t_th tk_th nm_th hown hK hP hD hS 0 rfl rfl 3 (by decide) (hts _ m_191) (fun _ h9 => h9) rfl (by decide +kernel) rfl rfl (Nat.le_of_ble_eq_true rfl) d_th_init_38 (fun H locs hP hD hS => ?_)
  have hP : va_P D cls [(h0, .inr (7, [.ref q5, .ref q17, .int (3 : Int32), .int (0 : Int32)])), (q5, .inr (1, [.ref q10_0, .ref q10_4, .ref q10_5, .ref q10_6])), (q10_0, .inr (4, [.int (p0 &&& (65534 : Int32)), .ref q10_1, .ref q10_2, .ref q10_3, .int 0, .int 0])), (q10_1, .inl (k.1, 16, .inl (fun _ => 0))), (q10_2, .inl (k.1, 16, .inl (fun _ => 0))), (q10_3, .inl (k.1, 16, .inl (fun _ => 0))), (q10_4, .inr (0, [.ref q10_0, .int ((0 : Int32) + (1 : Int32)), .int 0, .int 0])), (q10_5, .inr (0, [.ref q10_0, .int ((1 : Int32) + (1 : Int32)), .int 0, .int 0])), (q10_6, .inr (6, [.long (0 : Int64), .long (-1 : Int64), .int (0 : Int32)])), (q17, .inr (3, [.ref q5, .ref q25_0, .ref q25_1, .ref q25_2, .int 0, .int 0, .int 0, .int 0])), (q25_0, .inr (5, [.int 0])), (q25_1, .inr (2, [.int 0, .int 0, .int 0])), (q25_2, .inr (2, [.int 0, .int 0, .int 0]))] H := hP
  have hD : va_D A [(h0, .inr (7, [.ref q5, .ref q17, .int (3 : Int32), .int (0 : Int32)])), (q5, .inr (1, [.ref q10_0, .ref q10_4, .ref q10_5, .ref q10_6])), (q10_0, .inr (4, [.int (p0 &&& (65534 : Int32)), .ref q10_1, .ref q10_2, .ref q10_3, .int 0, .int 0])), (q10_1, .inl (k.1, 16, .inl (fun _ => 0))), (q10_2, .inl (k.1, 16, .inl (fun _ => 0))), (q10_3, .inl (k.1, 16, .inl (fun _ => 0))), (q10_4, .inr (0, [.ref q10_0, .int ((0 : Int32) + (1 : Int32)), .int 0, .int 0])), (q10_5, .inr (0, [.ref q10_0, .int ((1 : Int32) + (1 : Int32)), .int 0, .int 0])), (q10_6, .inr (6, [.long (0 : Int64), .long (-1 : Int64), .int (0 : Int32)])), (q17, .inr (3, [.ref q5, .ref q25_0, .ref q25_1, .ref q25_2, .int 0, .int 0, .int 0, .int 0])), (q25_0, .inr (5, [.int 0])), (q25_1, .inr (2, [.int 0, .int 0, .int 0])), (q25_2, .inr (2, [.int 0, .int 0, .int 0]))] := hD
  exact rt_c (q17, q5, q10_0, q10_1, q10_2, q10_3, q10_4, q10_5, q10_6, q25_0, q25_1, q25_2) hx hb hr hlocks hP hD hK hS [0, 9, 1, 2, 3, 4, 5, 6, 7, 8, 10, 11, 12] rfl (by decide) rfl d_th_init_41
