def f_st_machineOpen (v_bt : Int32) : Int32 := (if (v_bt &&& (8 : Int32)) = 0 then (0 : Int32) else (1 : Int32))
set_option maxHeartbeats 4000000 in
set_option maxRecDepth 100000 in
theorem c_st_machineOpen (l : Launch) (D : va_G) (k : k3) (aB : Nat) (sz : Nat) (v_bt : Int32) : Met l y_st_machineOpen (Cond.code y_st_machineOpen b_st_machineOpen 1 (some .boolean) :: uW) ({ frames := 0, cells := 0, slots := 0, locals := 0 }) (va_Pc [.ref aB] (pr_ D k sz [(aB, .inr (5, [.int v_bt]))])) (va_Qi (fun (r : Int32) (_ : Unit) => r = f_st_machineOpen v_bt) (fun _ t => po_ D k (va_A [(aB, .inr (5, [.int v_bt]))] sz) [(aB, .inr (5, [.int v_bt]))] t) (va_A [(aB, .inr (5, [.int v_bt]))] sz)) 0 0 (va_A [(aB, .inr (5, [.int v_bt]))] sz) := by
  refine en_ (by decide) ?_
  intro p e s m below meth c hsz hx hb hr hml hown hts hlocks hin hP hK hD hN hV
  subst hsz
  generalize hAe : va_A [(aB, .inr (5, [.int v_bt]))] s.heap.size = A at hD hV ⊢
  have hA : ∀ q : Nat, s.heap.size ≤ q → A q := fun q h => by rw [← hAe]; exact Or.inr h
  have hS : va_S A s.heap s.heap [] := va_S.rf
  have hF : f_st_machineOpen v_bt = f_st_machineOpen v_bt := rfl
  have hl := lv_entry ([.ref aB]) (n := 1) (Nat.le_of_ble_eq_true rfl)
  rw [lg_entry_eq]
  generalize (lg_sl ([.ref aB]) ++ List.replicate (1 - (lg_sl ([.ref aB])).length) Slot.unset).toArray = ls at hl ⊢
  have hl : lv_has ls 1 [(0, .ref aB)] := hl
  obtain ⟨H, hH⟩ : ∃ z, z = s.heap := ⟨_, rfl⟩
  have hP : va_P D cls [(aB, .inr (5, [.int v_bt]))] H := by rw [hH]; exact hP
  have hS : va_S A s.heap H [] := by rw [hH]; exact hS
  refine wH_ hH ?_
  refine lv_aload_n hx hb d_st_machineOpen_0 rfl (lv_at hl 0 rfl) ?_
  refine va_get (D := D) (ci := 5) (v := .int v_bt) (C := R_st) (T := T_st) (N := 1) hx hb hts iu_st hown hK hP 0 rfl rfl 0 (by decide) (hts _ m_133) (fun _ h9 => h9) rfl d_st_machineOpen_1 ?_
  refine lv_bipush (v := (8 : Int32)) hx hb d_st_machineOpen_4 (by decide) ?_
  refine lv_iand hx hb d_st_machineOpen_6 ?_
  refine lv_if_eq (tgt := 14) hx hb d_st_machineOpen_7 (by decide) (fun c1 => ?_) (fun c1 => ?_)
  · refine lv_iconst (v := (0 : Int32)) hx hb d_st_machineOpen_14 (by decide) ?_
    have hE : f_st_machineOpen v_bt = (0 : Int32) := by
      rw [hF]; unfold f_st_machineOpen; rw [if_pos c1]
    rw [hE]
    exact rt_z hx hb hr hlocks hP hD hK hS [0] rfl (by decide) rfl rfl (by decide) d_st_machineOpen_15
  · refine lv_iconst (v := (1 : Int32)) hx hb d_st_machineOpen_10 (by decide) ?_
    refine lv_goto (tgt := 15) hx hb d_st_machineOpen_11 (by decide) ?_
    have hE : f_st_machineOpen v_bt = (1 : Int32) := by
      rw [hF]; unfold f_st_machineOpen; rw [if_neg c1]
    rw [hE]
    exact rt_z hx hb hr hlocks hP hD hK hS [0] rfl (by decide) rfl rfl (by decide) d_st_machineOpen_15
theorem zb_st_machineOpen (v_bt : Int32) : narrow .boolean (.int (f_st_machineOpen v_bt)) = .int (f_st_machineOpen v_bt) := by
  unfold f_st_machineOpen; repeat' (first | refine nz_ ?_ ?_ | rfl | exact zb_th_hasBit ..)
def f_st_supervisorOpen (v_bt : Int32) : Int32 := (if (v_bt &&& (2 : Int32)) = 0 then (0 : Int32) else (1 : Int32))
set_option maxHeartbeats 4000000 in
set_option maxRecDepth 100000 in
theorem c_st_supervisorOpen (l : Launch) (D : va_G) (k : k3) (aB : Nat) (sz : Nat) (v_bt : Int32) : Met l y_st_supervisorOpen (Cond.code y_st_supervisorOpen b_st_supervisorOpen 1 (some .boolean) :: uW) ({ frames := 0, cells := 0, slots := 0, locals := 0 }) (va_Pc [.ref aB] (pr_ D k sz [(aB, .inr (5, [.int v_bt]))])) (va_Qi (fun (r : Int32) (_ : Unit) => r = f_st_supervisorOpen v_bt) (fun _ t => po_ D k (va_A [(aB, .inr (5, [.int v_bt]))] sz) [(aB, .inr (5, [.int v_bt]))] t) (va_A [(aB, .inr (5, [.int v_bt]))] sz)) 0 0 (va_A [(aB, .inr (5, [.int v_bt]))] sz) := by
  refine en_ (by decide) ?_
  intro p e s m below meth c hsz hx hb hr hml hown hts hlocks hin hP hK hD hN hV
  subst hsz
  generalize hAe : va_A [(aB, .inr (5, [.int v_bt]))] s.heap.size = A at hD hV ⊢
  have hA : ∀ q : Nat, s.heap.size ≤ q → A q := fun q h => by rw [← hAe]; exact Or.inr h
  have hS : va_S A s.heap s.heap [] := va_S.rf
  have hF : f_st_supervisorOpen v_bt = f_st_supervisorOpen v_bt := rfl
  have hl := lv_entry ([.ref aB]) (n := 1) (Nat.le_of_ble_eq_true rfl)
  rw [lg_entry_eq]
  generalize (lg_sl ([.ref aB]) ++ List.replicate (1 - (lg_sl ([.ref aB])).length) Slot.unset).toArray = ls at hl ⊢
  have hl : lv_has ls 1 [(0, .ref aB)] := hl
  obtain ⟨H, hH⟩ : ∃ z, z = s.heap := ⟨_, rfl⟩
  have hP : va_P D cls [(aB, .inr (5, [.int v_bt]))] H := by rw [hH]; exact hP
  have hS : va_S A s.heap H [] := by rw [hH]; exact hS
  refine wH_ hH ?_
  refine lv_aload_n hx hb d_st_supervisorOpen_0 rfl (lv_at hl 0 rfl) ?_
  refine va_get (D := D) (ci := 5) (v := .int v_bt) (C := R_st) (T := T_st) (N := 1) hx hb hts iu_st hown hK hP 0 rfl rfl 0 (by decide) (hts _ m_133) (fun _ h9 => h9) rfl d_st_supervisorOpen_1 ?_
  refine lv_iconst (v := (2 : Int32)) hx hb d_st_supervisorOpen_4 (by decide) ?_
  refine lv_iand hx hb d_st_supervisorOpen_5 ?_
  refine lv_if_eq (tgt := 13) hx hb d_st_supervisorOpen_6 (by decide) (fun c1 => ?_) (fun c1 => ?_)
  · refine lv_iconst (v := (0 : Int32)) hx hb d_st_supervisorOpen_13 (by decide) ?_
    have hE : f_st_supervisorOpen v_bt = (0 : Int32) := by
      rw [hF]; unfold f_st_supervisorOpen; rw [if_pos c1]
    rw [hE]
    exact rt_z hx hb hr hlocks hP hD hK hS [0] rfl (by decide) rfl rfl (by decide) d_st_supervisorOpen_14
  · refine lv_iconst (v := (1 : Int32)) hx hb d_st_supervisorOpen_9 (by decide) ?_
    refine lv_goto (tgt := 14) hx hb d_st_supervisorOpen_10 (by decide) ?_
    have hE : f_st_supervisorOpen v_bt = (1 : Int32) := by
      rw [hF]; unfold f_st_supervisorOpen; rw [if_neg c1]
    rw [hE]
    exact rt_z hx hb hr hlocks hP hD hK hS [0] rfl (by decide) rfl rfl (by decide) d_st_supervisorOpen_14
theorem zb_st_supervisorOpen (v_bt : Int32) : narrow .boolean (.int (f_st_supervisorOpen v_bt)) = .int (f_st_supervisorOpen v_bt) := by
  unfold f_st_supervisorOpen; repeat' (first | refine nz_ ?_ ?_ | rfl | exact zb_th_hasBit ..)
def f_st_changeByMachine_36 (v_bt : Int32) (p0 : Int32) (x1 : Int32) (x2 : Int32) : Int32 := (f_th_replaceBits v_bt p0 x2)
def f_st_changeByMachine_16 (v_bt : Int32) (p0 : Int32) (x1 : Int32) : Int32 := (if x1 = 0 then (f_st_changeByMachine_36 v_bt p0 x1 (6570 : Int32)) else (f_st_changeByMachine_36 v_bt p0 x1 (426 : Int32)))
def f_st_changeByMachine (v_bt : Int32) (p0 : Int32) : Int32 := (if (p0 &&& (6144 : Int32)) = (4096 : Int32) then (f_st_changeByMachine_16 v_bt p0 (1 : Int32)) else (f_st_changeByMachine_16 v_bt p0 (0 : Int32)))
set_option maxHeartbeats 4000000 in
set_option maxRecDepth 100000 in
theorem c_st_changeByMachine (l : Launch) (D : va_G) (k : k3) (aB : Nat) (sz : Nat) (v_bt : Int32) (p0 : Int32) : Met l y_st_changeByMachine (Cond.code y_st_changeByMachine b_st_changeByMachine 3 none :: uW) ({ frames := 1, cells := 0, slots := 0, locals := 22 }) (va_Pc [.ref aB, .int p0] (pr_ D k sz [(aB, .inr (5, [.int v_bt]))])) (va_Qv (fun (_ : Unit) => True) (fun _ t => po_ D k (va_A [(aB, .inr (5, [.int v_bt]))] sz) [(aB, .inr (5, [.int (f_st_changeByMachine v_bt p0)]))] t) (va_A [(aB, .inr (5, [.int v_bt]))] sz)) 0 0 (va_A [(aB, .inr (5, [.int v_bt]))] sz) := by
  refine en_ (by decide) ?_
  intro p e s m below meth c hsz hx hb hr hml hown hts hlocks hin hP hK hD hN hV
  subst hsz
  generalize hAe : va_A [(aB, .inr (5, [.int v_bt]))] s.heap.size = A at hD hV ⊢
  have hA : ∀ q : Nat, s.heap.size ≤ q → A q := fun q h => by rw [← hAe]; exact Or.inr h
  have hS : va_S A s.heap s.heap [] := va_S.rf
  have hF : f_st_changeByMachine v_bt p0 = f_st_changeByMachine v_bt p0 := rfl
  have hl := lv_entry ([.ref aB, .int p0]) (n := 3) (Nat.le_of_ble_eq_true rfl)
  rw [lg_entry_eq]
  generalize (lg_sl ([.ref aB, .int p0]) ++ List.replicate (3 - (lg_sl ([.ref aB, .int p0])).length) Slot.unset).toArray = ls at hl ⊢
  have hl : lv_has ls 3 [(0, .ref aB), (1, .int p0)] := hl
  obtain ⟨H, hH⟩ : ∃ z, z = s.heap := ⟨_, rfl⟩
  have hP : va_P D cls [(aB, .inr (5, [.int v_bt]))] H := by rw [hH]; exact hP
  have hS : va_S A s.heap H [] := by rw [hH]; exact hS
  refine wH_ hH ?_
  refine lv_iload_n hx hb d_st_changeByMachine_0 rfl (lv_at hl 1 rfl) ?_
  refine lv_sipush (v := (6144 : Int32)) hx hb d_st_changeByMachine_1 (by decide) ?_
  refine lv_iand hx hb d_st_changeByMachine_4 ?_
  refine lv_sipush (v := (4096 : Int32)) hx hb d_st_changeByMachine_5 (by decide) ?_
  refine jn_ (X := Int32) (A := A) (D := D) (H0 := s.heap) (fun x1 : Int32 => [(aB, .inr (5, [.int v_bt]))]) (fun x1 : Int32 => [.int x1]) (fun x1 : Int32 => [(0, .ref aB), (1, .int p0)]) (fun x1 : Int32 => f_st_changeByMachine v_bt p0 = f_st_changeByMachine_16 v_bt p0 x1) 16 3 (fun J => ?_) (fun x9 H locs ls hF hP hD hS hl => ?_)
  · refine lv_icmp_ne (tgt := 15) hx hb d_st_changeByMachine_8 (by decide) (fun c1 => ?_) (fun c1 => ?_)
    · refine lv_iconst (v := (0 : Int32)) hx hb d_st_changeByMachine_15 (by decide) ?_
      exact J (0 : Int32) _ _ _ (by rw [hF]; unfold f_st_changeByMachine; rw [if_neg c1]) (hP.sub [0] rfl) (hD.sub [0] (by decide) rfl) hS (lv_sub hl [0, 1] rfl)
    · refine lv_iconst (v := (1 : Int32)) hx hb d_st_changeByMachine_11 (by decide) ?_
      refine lv_goto (tgt := 16) hx hb d_st_changeByMachine_12 (by decide) ?_
      exact J (1 : Int32) _ _ _ (by rw [hF]; unfold f_st_changeByMachine; rw [if_pos c1]) (hP.sub [0] rfl) (hD.sub [0] (by decide) rfl) hS (lv_sub hl [0, 1] rfl)
  · obtain ⟨x1, rfl⟩ : ∃ z, z = x9 := ⟨_, rfl⟩
    have hF : f_st_changeByMachine v_bt p0 = f_st_changeByMachine_16 v_bt p0 x1 := hF
    have hP : va_P D cls [(aB, .inr (5, [.int v_bt]))] H := hP
    have hD : va_D A [(aB, .inr (5, [.int v_bt]))] := hD
    have hl : lv_has ls 3 [(0, .ref aB), (1, .int p0)] := hl
    refine W.eq (g2 := F0 m 16 ls [.int x1]) rfl ?_
    refine lv_istore_n (lv' := [(2, .int x1), (0, .ref aB), (1, .int p0)]) hx hb d_st_changeByMachine_16 rfl hl (by decide) rfl (fun ls hl => ?_)
    refine lv_aload_n hx hb d_st_changeByMachine_17 rfl (lv_at hl 1 rfl) ?_
    refine lv_aload_n hx hb d_st_changeByMachine_18 rfl (lv_at hl 1 rfl) ?_
    refine va_get (D := D) (ci := 5) (v := .int v_bt) (C := R_st) (T := T_st) (N := 1) hx hb hts iu_st hown hK hP 0 rfl rfl 0 (by decide) (hts _ m_133) (fun _ h9 => h9) rfl d_st_changeByMachine_19 ?_
    refine lv_iload_n hx hb d_st_changeByMachine_22 rfl (lv_at hl 2 rfl) ?_
    refine lv_iload_n hx hb d_st_changeByMachine_23 rfl (lv_at hl 0 rfl) ?_
    refine jn_ (X := Int32) (A := A) (D := D) (H0 := s.heap) (fun x2 : Int32 => [(aB, .inr (5, [.int v_bt]))]) (fun x2 : Int32 => [.int x2, .int p0, .int v_bt, .ref aB]) (fun x2 : Int32 => [(2, .int x1), (0, .ref aB), (1, .int p0)]) (fun x2 : Int32 => f_st_changeByMachine v_bt p0 = f_st_changeByMachine_36 v_bt p0 x1 x2) 36 3 (fun J => ?_) (fun x9 H locs ls hF hP hD hS hl => ?_)
    · refine lv_if_eq (tgt := 33) hx hb d_st_changeByMachine_24 (by decide) (fun c1 => ?_) (fun c1 => ?_)
      · refine lv_sipush (v := (6570 : Int32)) hx hb d_st_changeByMachine_33 (by decide) ?_
        exact J (6570 : Int32) _ _ _ (by rw [hF]; unfold f_st_changeByMachine_16; rw [if_pos c1]) (hP.sub [0] rfl) (hD.sub [0] (by decide) rfl) hS (lv_sub hl [0, 1, 2] rfl)
      · refine lv_sipush (v := (426 : Int32)) hx hb d_st_changeByMachine_27 (by decide) ?_
        refine lv_goto (tgt := 36) hx hb d_st_changeByMachine_30 (by decide) ?_
        exact J (426 : Int32) _ _ _ (by rw [hF]; unfold f_st_changeByMachine_16; rw [if_neg c1]) (hP.sub [0] rfl) (hD.sub [0] (by decide) rfl) hS (lv_sub hl [0, 1, 2] rfl)
    · obtain ⟨x2, rfl⟩ : ∃ z, z = x9 := ⟨_, rfl⟩
      have hF : f_st_changeByMachine v_bt p0 = f_st_changeByMachine_36 v_bt p0 x1 x2 := hF
      have hP : va_P D cls [(aB, .inr (5, [.int v_bt]))] H := hP
      have hD : va_D A [(aB, .inr (5, [.int v_bt]))] := hD
      have hl : lv_has ls 3 [(2, .int x1), (0, .ref aB), (1, .int p0)] := hl
      refine W.eq (g2 := F0 m 36 ls [.int x2, .int p0, .int v_bt, .ref aB]) rfl ?_
      refine fn_i (rn_SN (own := "TrapHart$Status") (index := 13) (n := 3) (As := [.int v_bt, .int p0, .int x2]) (rest := [.ref aB]) (isC := []) (ws := [(aB, .inr (5, [.int v_bt]))]) (wc := []) ⟨hx, hb, hml, hown, hts⟩ (c_th_replaceBits l D k H.size v_bt p0 x2) n_245 m_246 m_1 m_247 rfl rfl (by decide +kernel) ⟨Nat.le_of_ble_eq_true rfl, Nat.le_of_ble_eq_true rfl⟩ hP hK hD hN hV hS hA rfl (by decide) rfl rfl hl.1 rfl (lv_room (Nat.le_of_ble_eq_true rfl)) d_st_changeByMachine_36 ⟨Nat.le_of_ble_eq_true rfl, Nat.le_of_ble_eq_true rfl⟩) hP hD hS hA [] [0] (wr := [(aB, .inr (5, [.int v_bt]))]) rfl rfl (by decide) (by decide) (fun H locs hP hD hS => ?_)
      have hP : va_P D cls [(aB, .inr (5, [.int v_bt]))] H := hP
      have hD : va_D A [(aB, .inr (5, [.int v_bt]))] := hD
      refine va_put (D := D) (ci := 5) (v := .int (f_th_replaceBits v_bt p0 x2)) (ty := .int) (C := R_st) (T := T_st) (N := 1) hx hb hts iu_st t_st tk_st nm_st hown hK hP hD hS 0 rfl rfl 0 (by decide) (hts _ m_133) (fun _ h9 => h9) rfl (by decide +kernel) rfl rfl (Nat.le_of_ble_eq_true rfl) d_st_changeByMachine_39 (fun H locs hP hD hS => ?_)
      have hP : va_P D cls [(aB, .inr (5, [.int (f_th_replaceBits v_bt p0 x2)]))] H := hP
      have hD : va_D A [(aB, .inr (5, [.int (f_th_replaceBits v_bt p0 x2)]))] := hD
      have hE : f_st_changeByMachine v_bt p0 = (f_th_replaceBits v_bt p0 x2) := by
        rw [hF]; unfold f_st_changeByMachine_36; rfl
      rw [hE]
      exact rt_v hx hb hr hlocks hP hD hK hS [0] rfl (by decide) rfl d_st_changeByMachine_42
def f_st_changeBySupervisor (v_bt : Int32) (p0 : Int32) : Int32 := (f_th_replaceBits v_bt p0 (290 : Int32))
set_option maxHeartbeats 4000000 in
set_option maxRecDepth 100000 in
theorem c_st_changeBySupervisor (l : Launch) (D : va_G) (k : k3) (aB : Nat) (sz : Nat) (v_bt : Int32) (p0 : Int32) : Met l y_st_changeBySupervisor (Cond.code y_st_changeBySupervisor b_st_changeBySupervisor 2 none :: uW) ({ frames := 1, cells := 0, slots := 0, locals := 22 }) (va_Pc [.ref aB, .int p0] (pr_ D k sz [(aB, .inr (5, [.int v_bt]))])) (va_Qv (fun (_ : Unit) => True) (fun _ t => po_ D k (va_A [(aB, .inr (5, [.int v_bt]))] sz) [(aB, .inr (5, [.int (f_st_changeBySupervisor v_bt p0)]))] t) (va_A [(aB, .inr (5, [.int v_bt]))] sz)) 0 0 (va_A [(aB, .inr (5, [.int v_bt]))] sz) := by
  refine en_ (by decide) ?_
  intro p e s m below meth c hsz hx hb hr hml hown hts hlocks hin hP hK hD hN hV
  subst hsz
  generalize hAe : va_A [(aB, .inr (5, [.int v_bt]))] s.heap.size = A at hD hV ⊢
  have hA : ∀ q : Nat, s.heap.size ≤ q → A q := fun q h => by rw [← hAe]; exact Or.inr h
  have hS : va_S A s.heap s.heap [] := va_S.rf
  have hF : f_st_changeBySupervisor v_bt p0 = f_st_changeBySupervisor v_bt p0 := rfl
  have hl := lv_entry ([.ref aB, .int p0]) (n := 2) (Nat.le_of_ble_eq_true rfl)
  rw [lg_entry_eq]
  generalize (lg_sl ([.ref aB, .int p0]) ++ List.replicate (2 - (lg_sl ([.ref aB, .int p0])).length) Slot.unset).toArray = ls at hl ⊢
  have hl : lv_has ls 2 [(0, .ref aB), (1, .int p0)] := hl
  obtain ⟨H, hH⟩ : ∃ z, z = s.heap := ⟨_, rfl⟩
  have hP : va_P D cls [(aB, .inr (5, [.int v_bt]))] H := by rw [hH]; exact hP
  have hS : va_S A s.heap H [] := by rw [hH]; exact hS
  refine wH_ hH ?_
  refine lv_aload_n hx hb d_st_changeBySupervisor_0 rfl (lv_at hl 0 rfl) ?_
  refine lv_aload_n hx hb d_st_changeBySupervisor_1 rfl (lv_at hl 0 rfl) ?_
  refine va_get (D := D) (ci := 5) (v := .int v_bt) (C := R_st) (T := T_st) (N := 1) hx hb hts iu_st hown hK hP 0 rfl rfl 0 (by decide) (hts _ m_133) (fun _ h9 => h9) rfl d_st_changeBySupervisor_2 ?_
  refine lv_iload_n hx hb d_st_changeBySupervisor_5 rfl (lv_at hl 1 rfl) ?_
  refine lv_sipush (v := (290 : Int32)) hx hb d_st_changeBySupervisor_6 (by decide) ?_
  refine fn_i (rn_SN (own := "TrapHart$Status") (index := 13) (n := 3) (As := [.int v_bt, .int p0, .int (290 : Int32)]) (rest := [.ref aB]) (isC := []) (ws := [(aB, .inr (5, [.int v_bt]))]) (wc := []) ⟨hx, hb, hml, hown, hts⟩ (c_th_replaceBits l D k H.size v_bt p0 (290 : Int32)) n_245 m_246 m_1 m_247 rfl rfl (by decide +kernel) ⟨Nat.le_of_ble_eq_true rfl, Nat.le_of_ble_eq_true rfl⟩ hP hK hD hN hV hS hA rfl (by decide) rfl rfl hl.1 rfl (lv_room (Nat.le_of_ble_eq_true rfl)) d_st_changeBySupervisor_9 ⟨Nat.le_of_ble_eq_true rfl, Nat.le_of_ble_eq_true rfl⟩) hP hD hS hA [] [0] (wr := [(aB, .inr (5, [.int v_bt]))]) rfl rfl (by decide) (by decide) (fun H locs hP hD hS => ?_)
  have hP : va_P D cls [(aB, .inr (5, [.int v_bt]))] H := hP
  have hD : va_D A [(aB, .inr (5, [.int v_bt]))] := hD
  refine va_put (D := D) (ci := 5) (v := .int (f_th_replaceBits v_bt p0 (290 : Int32))) (ty := .int) (C := R_st) (T := T_st) (N := 1) hx hb hts iu_st t_st tk_st nm_st hown hK hP hD hS 0 rfl rfl 0 (by decide) (hts _ m_133) (fun _ h9 => h9) rfl (by decide +kernel) rfl rfl (Nat.le_of_ble_eq_true rfl) d_st_changeBySupervisor_12 (fun H locs hP hD hS => ?_)
  have hP : va_P D cls [(aB, .inr (5, [.int (f_th_replaceBits v_bt p0 (290 : Int32))]))] H := hP
  have hD : va_D A [(aB, .inr (5, [.int (f_th_replaceBits v_bt p0 (290 : Int32))]))] := hD
  have hE : f_st_changeBySupervisor v_bt p0 = (f_th_replaceBits v_bt p0 (290 : Int32)) := by
    rw [hF]; unfold f_st_changeBySupervisor; rfl
  rw [hE]
  exact rt_v hx hb hr hlocks hP hD hK hS [0] rfl (by decide) rfl d_st_changeBySupervisor_15
def f_st_enterMachine (v_bt : Int32) (p0 : Int32) : Int32 := (f_th_replaceBits v_bt (((v_bt &&& (8 : Int32)) <<< ((4 : Int32) &&& 31)) ||| (p0 <<< ((11 : Int32) &&& 31))) (6280 : Int32))
set_option maxHeartbeats 4000000 in
set_option maxRecDepth 100000 in
theorem c_st_enterMachine (l : Launch) (D : va_G) (k : k3) (aB : Nat) (sz : Nat) (v_bt : Int32) (p0 : Int32) : Met l y_st_enterMachine (Cond.code y_st_enterMachine b_st_enterMachine 3 none :: uW) ({ frames := 1, cells := 0, slots := 0, locals := 22 }) (va_Pc [.ref aB, .int p0] (pr_ D k sz [(aB, .inr (5, [.int v_bt]))])) (va_Qv (fun (_ : Unit) => True) (fun _ t => po_ D k (va_A [(aB, .inr (5, [.int v_bt]))] sz) [(aB, .inr (5, [.int (f_st_enterMachine v_bt p0)]))] t) (va_A [(aB, .inr (5, [.int v_bt]))] sz)) 0 0 (va_A [(aB, .inr (5, [.int v_bt]))] sz) := by
  refine en_ (by decide) ?_
  intro p e s m below meth c hsz hx hb hr hml hown hts hlocks hin hP hK hD hN hV
  subst hsz
  generalize hAe : va_A [(aB, .inr (5, [.int v_bt]))] s.heap.size = A at hD hV ⊢
  have hA : ∀ q : Nat, s.heap.size ≤ q → A q := fun q h => by rw [← hAe]; exact Or.inr h
  have hS : va_S A s.heap s.heap [] := va_S.rf
  have hF : f_st_enterMachine v_bt p0 = f_st_enterMachine v_bt p0 := rfl
  have hl := lv_entry ([.ref aB, .int p0]) (n := 3) (Nat.le_of_ble_eq_true rfl)
  rw [lg_entry_eq]
  generalize (lg_sl ([.ref aB, .int p0]) ++ List.replicate (3 - (lg_sl ([.ref aB, .int p0])).length) Slot.unset).toArray = ls at hl ⊢
  have hl : lv_has ls 3 [(0, .ref aB), (1, .int p0)] := hl
  obtain ⟨H, hH⟩ : ∃ z, z = s.heap := ⟨_, rfl⟩
  have hP : va_P D cls [(aB, .inr (5, [.int v_bt]))] H := by rw [hH]; exact hP
  have hS : va_S A s.heap H [] := by rw [hH]; exact hS
  refine wH_ hH ?_
  refine lv_aload_n hx hb d_st_enterMachine_0 rfl (lv_at hl 0 rfl) ?_
  refine va_get (D := D) (ci := 5) (v := .int v_bt) (C := R_st) (T := T_st) (N := 1) hx hb hts iu_st hown hK hP 0 rfl rfl 0 (by decide) (hts _ m_133) (fun _ h9 => h9) rfl d_st_enterMachine_1 ?_
  refine lv_bipush (v := (8 : Int32)) hx hb d_st_enterMachine_4 (by decide) ?_
  refine lv_iand hx hb d_st_enterMachine_6 ?_
  refine lv_iconst (v := (4 : Int32)) hx hb d_st_enterMachine_7 (by decide) ?_
  refine lv_ishl hx hb d_st_enterMachine_8 ?_
  refine lv_iload_n hx hb d_st_enterMachine_9 rfl (lv_at hl 1 rfl) ?_
  refine lv_bipush (v := (11 : Int32)) hx hb d_st_enterMachine_10 (by decide) ?_
  refine lv_ishl hx hb d_st_enterMachine_12 ?_
  refine lv_ior hx hb d_st_enterMachine_13 ?_
  refine lv_istore_n (lv' := [(2, .int (((v_bt &&& (8 : Int32)) <<< ((4 : Int32) &&& 31)) ||| (p0 <<< ((11 : Int32) &&& 31)))), (0, .ref aB), (1, .int p0)]) hx hb d_st_enterMachine_14 rfl hl (by decide) rfl (fun ls hl => ?_)
  refine lv_aload_n hx hb d_st_enterMachine_15 rfl (lv_at hl 1 rfl) ?_
  refine lv_aload_n hx hb d_st_enterMachine_16 rfl (lv_at hl 1 rfl) ?_
  refine va_get (D := D) (ci := 5) (v := .int v_bt) (C := R_st) (T := T_st) (N := 1) hx hb hts iu_st hown hK hP 0 rfl rfl 0 (by decide) (hts _ m_133) (fun _ h9 => h9) rfl d_st_enterMachine_17 ?_
  refine lv_iload_n hx hb d_st_enterMachine_20 rfl (lv_at hl 0 rfl) ?_
  refine lv_sipush (v := (6280 : Int32)) hx hb d_st_enterMachine_21 (by decide) ?_
  refine fn_i (rn_SN (own := "TrapHart$Status") (index := 13) (n := 3) (As := [.int v_bt, .int (((v_bt &&& (8 : Int32)) <<< ((4 : Int32) &&& 31)) ||| (p0 <<< ((11 : Int32) &&& 31))), .int (6280 : Int32)]) (rest := [.ref aB]) (isC := []) (ws := [(aB, .inr (5, [.int v_bt]))]) (wc := []) ⟨hx, hb, hml, hown, hts⟩ (c_th_replaceBits l D k H.size v_bt (((v_bt &&& (8 : Int32)) <<< ((4 : Int32) &&& 31)) ||| (p0 <<< ((11 : Int32) &&& 31))) (6280 : Int32)) n_245 m_246 m_1 m_247 rfl rfl (by decide +kernel) ⟨Nat.le_of_ble_eq_true rfl, Nat.le_of_ble_eq_true rfl⟩ hP hK hD hN hV hS hA rfl (by decide) rfl rfl hl.1 rfl (lv_room (Nat.le_of_ble_eq_true rfl)) d_st_enterMachine_24 ⟨Nat.le_of_ble_eq_true rfl, Nat.le_of_ble_eq_true rfl⟩) hP hD hS hA [] [0] (wr := [(aB, .inr (5, [.int v_bt]))]) rfl rfl (by decide) (by decide) (fun H locs hP hD hS => ?_)
  have hP : va_P D cls [(aB, .inr (5, [.int v_bt]))] H := hP
  have hD : va_D A [(aB, .inr (5, [.int v_bt]))] := hD
  refine va_put (D := D) (ci := 5) (v := .int (f_th_replaceBits v_bt (((v_bt &&& (8 : Int32)) <<< ((4 : Int32) &&& 31)) ||| (p0 <<< ((11 : Int32) &&& 31))) (6280 : Int32))) (ty := .int) (C := R_st) (T := T_st) (N := 1) hx hb hts iu_st t_st tk_st nm_st hown hK hP hD hS 0 rfl rfl 0 (by decide) (hts _ m_133) (fun _ h9 => h9) rfl (by decide +kernel) rfl rfl (Nat.le_of_ble_eq_true rfl) d_st_enterMachine_27 (fun H locs hP hD hS => ?_)
  have hP : va_P D cls [(aB, .inr (5, [.int (f_th_replaceBits v_bt (((v_bt &&& (8 : Int32)) <<< ((4 : Int32) &&& 31)) ||| (p0 <<< ((11 : Int32) &&& 31))) (6280 : Int32))]))] H := hP
  have hD : va_D A [(aB, .inr (5, [.int (f_th_replaceBits v_bt (((v_bt &&& (8 : Int32)) <<< ((4 : Int32) &&& 31)) ||| (p0 <<< ((11 : Int32) &&& 31))) (6280 : Int32))]))] := hD
  have hE : f_st_enterMachine v_bt p0 = (f_th_replaceBits v_bt (((v_bt &&& (8 : Int32)) <<< ((4 : Int32) &&& 31)) ||| (p0 <<< ((11 : Int32) &&& 31))) (6280 : Int32)) := by
    rw [hF]; unfold f_st_enterMachine; rfl
  rw [hE]
  exact rt_v hx hb hr hlocks hP hD hK hS [0] rfl (by decide) rfl d_st_enterMachine_30
def f_st_enterSupervisor (v_bt : Int32) (p0 : Int32) : Int32 := (f_th_replaceBits v_bt (((v_bt &&& (2 : Int32)) <<< ((4 : Int32) &&& 31)) ||| (p0 <<< ((8 : Int32) &&& 31))) (290 : Int32))
set_option maxHeartbeats 4000000 in
set_option maxRecDepth 100000 in
theorem c_st_enterSupervisor (l : Launch) (D : va_G) (k : k3) (aB : Nat) (sz : Nat) (v_bt : Int32) (p0 : Int32) : Met l y_st_enterSupervisor (Cond.code y_st_enterSupervisor b_st_enterSupervisor 3 none :: uW) ({ frames := 1, cells := 0, slots := 0, locals := 22 }) (va_Pc [.ref aB, .int p0] (pr_ D k sz [(aB, .inr (5, [.int v_bt]))])) (va_Qv (fun (_ : Unit) => True) (fun _ t => po_ D k (va_A [(aB, .inr (5, [.int v_bt]))] sz) [(aB, .inr (5, [.int (f_st_enterSupervisor v_bt p0)]))] t) (va_A [(aB, .inr (5, [.int v_bt]))] sz)) 0 0 (va_A [(aB, .inr (5, [.int v_bt]))] sz) := by
  refine en_ (by decide) ?_
  intro p e s m below meth c hsz hx hb hr hml hown hts hlocks hin hP hK hD hN hV
  subst hsz
  generalize hAe : va_A [(aB, .inr (5, [.int v_bt]))] s.heap.size = A at hD hV ⊢
  have hA : ∀ q : Nat, s.heap.size ≤ q → A q := fun q h => by rw [← hAe]; exact Or.inr h
  have hS : va_S A s.heap s.heap [] := va_S.rf
  have hF : f_st_enterSupervisor v_bt p0 = f_st_enterSupervisor v_bt p0 := rfl
  have hl := lv_entry ([.ref aB, .int p0]) (n := 3) (Nat.le_of_ble_eq_true rfl)
  rw [lg_entry_eq]
  generalize (lg_sl ([.ref aB, .int p0]) ++ List.replicate (3 - (lg_sl ([.ref aB, .int p0])).length) Slot.unset).toArray = ls at hl ⊢
  have hl : lv_has ls 3 [(0, .ref aB), (1, .int p0)] := hl
  obtain ⟨H, hH⟩ : ∃ z, z = s.heap := ⟨_, rfl⟩
  have hP : va_P D cls [(aB, .inr (5, [.int v_bt]))] H := by rw [hH]; exact hP
  have hS : va_S A s.heap H [] := by rw [hH]; exact hS
  refine wH_ hH ?_
  refine lv_aload_n hx hb d_st_enterSupervisor_0 rfl (lv_at hl 0 rfl) ?_
  refine va_get (D := D) (ci := 5) (v := .int v_bt) (C := R_st) (T := T_st) (N := 1) hx hb hts iu_st hown hK hP 0 rfl rfl 0 (by decide) (hts _ m_133) (fun _ h9 => h9) rfl d_st_enterSupervisor_1 ?_
  refine lv_iconst (v := (2 : Int32)) hx hb d_st_enterSupervisor_4 (by decide) ?_
  refine lv_iand hx hb d_st_enterSupervisor_5 ?_
  refine lv_iconst (v := (4 : Int32)) hx hb d_st_enterSupervisor_6 (by decide) ?_
  refine lv_ishl hx hb d_st_enterSupervisor_7 ?_
  refine lv_iload_n hx hb d_st_enterSupervisor_8 rfl (lv_at hl 1 rfl) ?_
  refine lv_bipush (v := (8 : Int32)) hx hb d_st_enterSupervisor_9 (by decide) ?_
  refine lv_ishl hx hb d_st_enterSupervisor_11 ?_
  refine lv_ior hx hb d_st_enterSupervisor_12 ?_
  refine lv_istore_n (lv' := [(2, .int (((v_bt &&& (2 : Int32)) <<< ((4 : Int32) &&& 31)) ||| (p0 <<< ((8 : Int32) &&& 31)))), (0, .ref aB), (1, .int p0)]) hx hb d_st_enterSupervisor_13 rfl hl (by decide) rfl (fun ls hl => ?_)
  refine lv_aload_n hx hb d_st_enterSupervisor_14 rfl (lv_at hl 1 rfl) ?_
  refine lv_aload_n hx hb d_st_enterSupervisor_15 rfl (lv_at hl 1 rfl) ?_
  refine va_get (D := D) (ci := 5) (v := .int v_bt) (C := R_st) (T := T_st) (N := 1) hx hb hts iu_st hown hK hP 0 rfl rfl 0 (by decide) (hts _ m_133) (fun _ h9 => h9) rfl d_st_enterSupervisor_16 ?_
  refine lv_iload_n hx hb d_st_enterSupervisor_19 rfl (lv_at hl 0 rfl) ?_
  refine lv_sipush (v := (290 : Int32)) hx hb d_st_enterSupervisor_20 (by decide) ?_
  refine fn_i (rn_SN (own := "TrapHart$Status") (index := 13) (n := 3) (As := [.int v_bt, .int (((v_bt &&& (2 : Int32)) <<< ((4 : Int32) &&& 31)) ||| (p0 <<< ((8 : Int32) &&& 31))), .int (290 : Int32)]) (rest := [.ref aB]) (isC := []) (ws := [(aB, .inr (5, [.int v_bt]))]) (wc := []) ⟨hx, hb, hml, hown, hts⟩ (c_th_replaceBits l D k H.size v_bt (((v_bt &&& (2 : Int32)) <<< ((4 : Int32) &&& 31)) ||| (p0 <<< ((8 : Int32) &&& 31))) (290 : Int32)) n_245 m_246 m_1 m_247 rfl rfl (by decide +kernel) ⟨Nat.le_of_ble_eq_true rfl, Nat.le_of_ble_eq_true rfl⟩ hP hK hD hN hV hS hA rfl (by decide) rfl rfl hl.1 rfl (lv_room (Nat.le_of_ble_eq_true rfl)) d_st_enterSupervisor_23 ⟨Nat.le_of_ble_eq_true rfl, Nat.le_of_ble_eq_true rfl⟩) hP hD hS hA [] [0] (wr := [(aB, .inr (5, [.int v_bt]))]) rfl rfl (by decide) (by decide) (fun H locs hP hD hS => ?_)
  have hP : va_P D cls [(aB, .inr (5, [.int v_bt]))] H := hP
  have hD : va_D A [(aB, .inr (5, [.int v_bt]))] := hD
  refine va_put (D := D) (ci := 5) (v := .int (f_th_replaceBits v_bt (((v_bt &&& (2 : Int32)) <<< ((4 : Int32) &&& 31)) ||| (p0 <<< ((8 : Int32) &&& 31))) (290 : Int32))) (ty := .int) (C := R_st) (T := T_st) (N := 1) hx hb hts iu_st t_st tk_st nm_st hown hK hP hD hS 0 rfl rfl 0 (by decide) (hts _ m_133) (fun _ h9 => h9) rfl (by decide +kernel) rfl rfl (Nat.le_of_ble_eq_true rfl) d_st_enterSupervisor_26 (fun H locs hP hD hS => ?_)
  have hP : va_P D cls [(aB, .inr (5, [.int (f_th_replaceBits v_bt (((v_bt &&& (2 : Int32)) <<< ((4 : Int32) &&& 31)) ||| (p0 <<< ((8 : Int32) &&& 31))) (290 : Int32))]))] H := hP
  have hD : va_D A [(aB, .inr (5, [.int (f_th_replaceBits v_bt (((v_bt &&& (2 : Int32)) <<< ((4 : Int32) &&& 31)) ||| (p0 <<< ((8 : Int32) &&& 31))) (290 : Int32))]))] := hD
  have hE : f_st_enterSupervisor v_bt p0 = (f_th_replaceBits v_bt (((v_bt &&& (2 : Int32)) <<< ((4 : Int32) &&& 31)) ||| (p0 <<< ((8 : Int32) &&& 31))) (290 : Int32)) := by
    rw [hF]; unfold f_st_enterSupervisor; rfl
  rw [hE]
  exact rt_v hx hb hr hlocks hP hD hK hS [0] rfl (by decide) rfl d_st_enterSupervisor_29
def f_st_leaveMachine (v_bt : Int32) : Int32 × Int32 := ((v_bt &&& (6144 : Int32)) >>> ((11 : Int32) &&& 31), f_th_replaceBits v_bt (((v_bt &&& (128 : Int32)) >>> ((4 : Int32) &&& 31)) ||| (128 : Int32)) (6280 : Int32))
set_option maxHeartbeats 4000000 in
set_option maxRecDepth 100000 in
theorem c_st_leaveMachine (l : Launch) (D : va_G) (k : k3) (aB : Nat) (sz : Nat) (v_bt : Int32) : Met l y_st_leaveMachine (Cond.code y_st_leaveMachine b_st_leaveMachine 3 (some .int) :: uW) ({ frames := 1, cells := 0, slots := 0, locals := 22 }) (va_Pc [.ref aB] (pr_ D k sz [(aB, .inr (5, [.int v_bt]))])) (va_Qi (fun (r : Int32) (_ : Unit) => r = (f_st_leaveMachine v_bt).1) (fun _ t => po_ D k (va_A [(aB, .inr (5, [.int v_bt]))] sz) [(aB, .inr (5, [.int ((f_st_leaveMachine v_bt).2)]))] t) (va_A [(aB, .inr (5, [.int v_bt]))] sz)) 0 0 (va_A [(aB, .inr (5, [.int v_bt]))] sz) := by
  refine en_ (by decide) ?_
  intro p e s m below meth c hsz hx hb hr hml hown hts hlocks hin hP hK hD hN hV
  subst hsz
  generalize hAe : va_A [(aB, .inr (5, [.int v_bt]))] s.heap.size = A at hD hV ⊢
  have hA : ∀ q : Nat, s.heap.size ≤ q → A q := fun q h => by rw [← hAe]; exact Or.inr h
  have hS : va_S A s.heap s.heap [] := va_S.rf
  have hF : f_st_leaveMachine v_bt = f_st_leaveMachine v_bt := rfl
  have hl := lv_entry ([.ref aB]) (n := 3) (Nat.le_of_ble_eq_true rfl)
  rw [lg_entry_eq]
  generalize (lg_sl ([.ref aB]) ++ List.replicate (3 - (lg_sl ([.ref aB])).length) Slot.unset).toArray = ls at hl ⊢
  have hl : lv_has ls 3 [(0, .ref aB)] := hl
  obtain ⟨H, hH⟩ : ∃ z, z = s.heap := ⟨_, rfl⟩
  have hP : va_P D cls [(aB, .inr (5, [.int v_bt]))] H := by rw [hH]; exact hP
  have hS : va_S A s.heap H [] := by rw [hH]; exact hS
  refine wH_ hH ?_
  refine lv_aload_n hx hb d_st_leaveMachine_0 rfl (lv_at hl 0 rfl) ?_
  refine va_get (D := D) (ci := 5) (v := .int v_bt) (C := R_st) (T := T_st) (N := 1) hx hb hts iu_st hown hK hP 0 rfl rfl 0 (by decide) (hts _ m_133) (fun _ h9 => h9) rfl d_st_leaveMachine_1 ?_
  refine lv_sipush (v := (6144 : Int32)) hx hb d_st_leaveMachine_4 (by decide) ?_
  refine lv_iand hx hb d_st_leaveMachine_7 ?_
  refine lv_bipush (v := (11 : Int32)) hx hb d_st_leaveMachine_8 (by decide) ?_
  refine lv_ishr hx hb d_st_leaveMachine_10 ?_
  refine lv_istore_n (lv' := [(1, .int ((v_bt &&& (6144 : Int32)) >>> ((11 : Int32) &&& 31))), (0, .ref aB)]) hx hb d_st_leaveMachine_11 rfl hl (by decide) rfl (fun ls hl => ?_)
  refine lv_aload_n hx hb d_st_leaveMachine_12 rfl (lv_at hl 1 rfl) ?_
  refine va_get (D := D) (ci := 5) (v := .int v_bt) (C := R_st) (T := T_st) (N := 1) hx hb hts iu_st hown hK hP 0 rfl rfl 0 (by decide) (hts _ m_133) (fun _ h9 => h9) rfl d_st_leaveMachine_13 ?_
  refine lv_sipush (v := (128 : Int32)) hx hb d_st_leaveMachine_16 (by decide) ?_
  refine lv_iand hx hb d_st_leaveMachine_19 ?_
  refine lv_iconst (v := (4 : Int32)) hx hb d_st_leaveMachine_20 (by decide) ?_
  refine lv_ishr hx hb d_st_leaveMachine_21 ?_
  refine lv_sipush (v := (128 : Int32)) hx hb d_st_leaveMachine_22 (by decide) ?_
  refine lv_ior hx hb d_st_leaveMachine_25 ?_
  refine lv_istore_n (lv' := [(2, .int (((v_bt &&& (128 : Int32)) >>> ((4 : Int32) &&& 31)) ||| (128 : Int32))), (1, .int ((v_bt &&& (6144 : Int32)) >>> ((11 : Int32) &&& 31))), (0, .ref aB)]) hx hb d_st_leaveMachine_26 rfl hl (by decide) rfl (fun ls hl => ?_)
  refine lv_aload_n hx hb d_st_leaveMachine_27 rfl (lv_at hl 2 rfl) ?_
  refine lv_aload_n hx hb d_st_leaveMachine_28 rfl (lv_at hl 2 rfl) ?_
  refine va_get (D := D) (ci := 5) (v := .int v_bt) (C := R_st) (T := T_st) (N := 1) hx hb hts iu_st hown hK hP 0 rfl rfl 0 (by decide) (hts _ m_133) (fun _ h9 => h9) rfl d_st_leaveMachine_29 ?_
  refine lv_iload_n hx hb d_st_leaveMachine_32 rfl (lv_at hl 0 rfl) ?_
  refine lv_sipush (v := (6280 : Int32)) hx hb d_st_leaveMachine_33 (by decide) ?_
  refine fn_i (rn_SN (own := "TrapHart$Status") (index := 13) (n := 3) (As := [.int v_bt, .int (((v_bt &&& (128 : Int32)) >>> ((4 : Int32) &&& 31)) ||| (128 : Int32)), .int (6280 : Int32)]) (rest := [.ref aB]) (isC := []) (ws := [(aB, .inr (5, [.int v_bt]))]) (wc := []) ⟨hx, hb, hml, hown, hts⟩ (c_th_replaceBits l D k H.size v_bt (((v_bt &&& (128 : Int32)) >>> ((4 : Int32) &&& 31)) ||| (128 : Int32)) (6280 : Int32)) n_245 m_246 m_1 m_247 rfl rfl (by decide +kernel) ⟨Nat.le_of_ble_eq_true rfl, Nat.le_of_ble_eq_true rfl⟩ hP hK hD hN hV hS hA rfl (by decide) rfl rfl hl.1 rfl (lv_room (Nat.le_of_ble_eq_true rfl)) d_st_leaveMachine_36 ⟨Nat.le_of_ble_eq_true rfl, Nat.le_of_ble_eq_true rfl⟩) hP hD hS hA [] [0] (wr := [(aB, .inr (5, [.int v_bt]))]) rfl rfl (by decide) (by decide) (fun H locs hP hD hS => ?_)
  have hP : va_P D cls [(aB, .inr (5, [.int v_bt]))] H := hP
  have hD : va_D A [(aB, .inr (5, [.int v_bt]))] := hD
  refine va_put (D := D) (ci := 5) (v := .int (f_th_replaceBits v_bt (((v_bt &&& (128 : Int32)) >>> ((4 : Int32) &&& 31)) ||| (128 : Int32)) (6280 : Int32))) (ty := .int) (C := R_st) (T := T_st) (N := 1) hx hb hts iu_st t_st tk_st nm_st hown hK hP hD hS 0 rfl rfl 0 (by decide) (hts _ m_133) (fun _ h9 => h9) rfl (by decide +kernel) rfl rfl (Nat.le_of_ble_eq_true rfl) d_st_leaveMachine_39 (fun H locs hP hD hS => ?_)
  have hP : va_P D cls [(aB, .inr (5, [.int (f_th_replaceBits v_bt (((v_bt &&& (128 : Int32)) >>> ((4 : Int32) &&& 31)) ||| (128 : Int32)) (6280 : Int32))]))] H := hP
  have hD : va_D A [(aB, .inr (5, [.int (f_th_replaceBits v_bt (((v_bt &&& (128 : Int32)) >>> ((4 : Int32) &&& 31)) ||| (128 : Int32)) (6280 : Int32))]))] := hD
  refine lv_iload_n hx hb d_st_leaveMachine_42 rfl (lv_at hl 1 rfl) ?_
  have hE : f_st_leaveMachine v_bt = ((v_bt &&& (6144 : Int32)) >>> ((11 : Int32) &&& 31), f_th_replaceBits v_bt (((v_bt &&& (128 : Int32)) >>> ((4 : Int32) &&& 31)) ||| (128 : Int32)) (6280 : Int32)) := by
    rw [hF]; unfold f_st_leaveMachine; rfl
  rw [hE]
  exact rt_i hx hb hr hlocks hP hD hK hS [0] rfl (by decide) rfl rfl d_st_leaveMachine_43
def f_st_leaveSupervisor (v_bt : Int32) : Int32 × Int32 := ((v_bt &&& (256 : Int32)) >>> ((8 : Int32) &&& 31), f_th_replaceBits v_bt (((v_bt &&& (32 : Int32)) >>> ((4 : Int32) &&& 31)) ||| (32 : Int32)) (290 : Int32))
set_option maxHeartbeats 4000000 in
set_option maxRecDepth 100000 in
theorem c_st_leaveSupervisor (l : Launch) (D : va_G) (k : k3) (aB : Nat) (sz : Nat) (v_bt : Int32) : Met l y_st_leaveSupervisor (Cond.code y_st_leaveSupervisor b_st_leaveSupervisor 3 (some .int) :: uW) ({ frames := 1, cells := 0, slots := 0, locals := 22 }) (va_Pc [.ref aB] (pr_ D k sz [(aB, .inr (5, [.int v_bt]))])) (va_Qi (fun (r : Int32) (_ : Unit) => r = (f_st_leaveSupervisor v_bt).1) (fun _ t => po_ D k (va_A [(aB, .inr (5, [.int v_bt]))] sz) [(aB, .inr (5, [.int ((f_st_leaveSupervisor v_bt).2)]))] t) (va_A [(aB, .inr (5, [.int v_bt]))] sz)) 0 0 (va_A [(aB, .inr (5, [.int v_bt]))] sz) := by
  refine en_ (by decide) ?_
  intro p e s m below meth c hsz hx hb hr hml hown hts hlocks hin hP hK hD hN hV
  subst hsz
  generalize hAe : va_A [(aB, .inr (5, [.int v_bt]))] s.heap.size = A at hD hV ⊢
  have hA : ∀ q : Nat, s.heap.size ≤ q → A q := fun q h => by rw [← hAe]; exact Or.inr h
  have hS : va_S A s.heap s.heap [] := va_S.rf
  have hF : f_st_leaveSupervisor v_bt = f_st_leaveSupervisor v_bt := rfl
  have hl := lv_entry ([.ref aB]) (n := 3) (Nat.le_of_ble_eq_true rfl)
  rw [lg_entry_eq]
  generalize (lg_sl ([.ref aB]) ++ List.replicate (3 - (lg_sl ([.ref aB])).length) Slot.unset).toArray = ls at hl ⊢
  have hl : lv_has ls 3 [(0, .ref aB)] := hl
  obtain ⟨H, hH⟩ : ∃ z, z = s.heap := ⟨_, rfl⟩
  have hP : va_P D cls [(aB, .inr (5, [.int v_bt]))] H := by rw [hH]; exact hP
  have hS : va_S A s.heap H [] := by rw [hH]; exact hS
  refine wH_ hH ?_
  refine lv_aload_n hx hb d_st_leaveSupervisor_0 rfl (lv_at hl 0 rfl) ?_
  refine va_get (D := D) (ci := 5) (v := .int v_bt) (C := R_st) (T := T_st) (N := 1) hx hb hts iu_st hown hK hP 0 rfl rfl 0 (by decide) (hts _ m_133) (fun _ h9 => h9) rfl d_st_leaveSupervisor_1 ?_
  refine lv_sipush (v := (256 : Int32)) hx hb d_st_leaveSupervisor_4 (by decide) ?_
  refine lv_iand hx hb d_st_leaveSupervisor_7 ?_
  refine lv_bipush (v := (8 : Int32)) hx hb d_st_leaveSupervisor_8 (by decide) ?_
  refine lv_ishr hx hb d_st_leaveSupervisor_10 ?_
  refine lv_istore_n (lv' := [(1, .int ((v_bt &&& (256 : Int32)) >>> ((8 : Int32) &&& 31))), (0, .ref aB)]) hx hb d_st_leaveSupervisor_11 rfl hl (by decide) rfl (fun ls hl => ?_)
  refine lv_aload_n hx hb d_st_leaveSupervisor_12 rfl (lv_at hl 1 rfl) ?_
  refine va_get (D := D) (ci := 5) (v := .int v_bt) (C := R_st) (T := T_st) (N := 1) hx hb hts iu_st hown hK hP 0 rfl rfl 0 (by decide) (hts _ m_133) (fun _ h9 => h9) rfl d_st_leaveSupervisor_13 ?_
  refine lv_bipush (v := (32 : Int32)) hx hb d_st_leaveSupervisor_16 (by decide) ?_
  refine lv_iand hx hb d_st_leaveSupervisor_18 ?_
  refine lv_iconst (v := (4 : Int32)) hx hb d_st_leaveSupervisor_19 (by decide) ?_
  refine lv_ishr hx hb d_st_leaveSupervisor_20 ?_
  refine lv_bipush (v := (32 : Int32)) hx hb d_st_leaveSupervisor_21 (by decide) ?_
  refine lv_ior hx hb d_st_leaveSupervisor_23 ?_
  refine lv_istore_n (lv' := [(2, .int (((v_bt &&& (32 : Int32)) >>> ((4 : Int32) &&& 31)) ||| (32 : Int32))), (1, .int ((v_bt &&& (256 : Int32)) >>> ((8 : Int32) &&& 31))), (0, .ref aB)]) hx hb d_st_leaveSupervisor_24 rfl hl (by decide) rfl (fun ls hl => ?_)
  refine lv_aload_n hx hb d_st_leaveSupervisor_25 rfl (lv_at hl 2 rfl) ?_
  refine lv_aload_n hx hb d_st_leaveSupervisor_26 rfl (lv_at hl 2 rfl) ?_
  refine va_get (D := D) (ci := 5) (v := .int v_bt) (C := R_st) (T := T_st) (N := 1) hx hb hts iu_st hown hK hP 0 rfl rfl 0 (by decide) (hts _ m_133) (fun _ h9 => h9) rfl d_st_leaveSupervisor_27 ?_
  refine lv_iload_n hx hb d_st_leaveSupervisor_30 rfl (lv_at hl 0 rfl) ?_
  refine lv_sipush (v := (290 : Int32)) hx hb d_st_leaveSupervisor_31 (by decide) ?_
  refine fn_i (rn_SN (own := "TrapHart$Status") (index := 13) (n := 3) (As := [.int v_bt, .int (((v_bt &&& (32 : Int32)) >>> ((4 : Int32) &&& 31)) ||| (32 : Int32)), .int (290 : Int32)]) (rest := [.ref aB]) (isC := []) (ws := [(aB, .inr (5, [.int v_bt]))]) (wc := []) ⟨hx, hb, hml, hown, hts⟩ (c_th_replaceBits l D k H.size v_bt (((v_bt &&& (32 : Int32)) >>> ((4 : Int32) &&& 31)) ||| (32 : Int32)) (290 : Int32)) n_245 m_246 m_1 m_247 rfl rfl (by decide +kernel) ⟨Nat.le_of_ble_eq_true rfl, Nat.le_of_ble_eq_true rfl⟩ hP hK hD hN hV hS hA rfl (by decide) rfl rfl hl.1 rfl (lv_room (Nat.le_of_ble_eq_true rfl)) d_st_leaveSupervisor_34 ⟨Nat.le_of_ble_eq_true rfl, Nat.le_of_ble_eq_true rfl⟩) hP hD hS hA [] [0] (wr := [(aB, .inr (5, [.int v_bt]))]) rfl rfl (by decide) (by decide) (fun H locs hP hD hS => ?_)
  have hP : va_P D cls [(aB, .inr (5, [.int v_bt]))] H := hP
  have hD : va_D A [(aB, .inr (5, [.int v_bt]))] := hD
  refine va_put (D := D) (ci := 5) (v := .int (f_th_replaceBits v_bt (((v_bt &&& (32 : Int32)) >>> ((4 : Int32) &&& 31)) ||| (32 : Int32)) (290 : Int32))) (ty := .int) (C := R_st) (T := T_st) (N := 1) hx hb hts iu_st t_st tk_st nm_st hown hK hP hD hS 0 rfl rfl 0 (by decide) (hts _ m_133) (fun _ h9 => h9) rfl (by decide +kernel) rfl rfl (Nat.le_of_ble_eq_true rfl) d_st_leaveSupervisor_37 (fun H locs hP hD hS => ?_)
  have hP : va_P D cls [(aB, .inr (5, [.int (f_th_replaceBits v_bt (((v_bt &&& (32 : Int32)) >>> ((4 : Int32) &&& 31)) ||| (32 : Int32)) (290 : Int32))]))] H := hP
  have hD : va_D A [(aB, .inr (5, [.int (f_th_replaceBits v_bt (((v_bt &&& (32 : Int32)) >>> ((4 : Int32) &&& 31)) ||| (32 : Int32)) (290 : Int32))]))] := hD
  refine lv_iload_n hx hb d_st_leaveSupervisor_40 rfl (lv_at hl 1 rfl) ?_
  have hE : f_st_leaveSupervisor v_bt = ((v_bt &&& (256 : Int32)) >>> ((8 : Int32) &&& 31), f_th_replaceBits v_bt (((v_bt &&& (32 : Int32)) >>> ((4 : Int32) &&& 31)) ||| (32 : Int32)) (290 : Int32)) := by
    rw [hF]; unfold f_st_leaveSupervisor; rfl
  rw [hE]
  exact rt_i hx hb hr hlocks hP hD hK hS [0] rfl (by decide) rfl rfl d_st_leaveSupervisor_41
def f_hd_take_21 (v_hv : Int32) (p0 : Int32) (p1 : Int32) (p2 : Int32) (x1 : Int32) : Int32 × Int32 × Int32 := (if p2 = 0 then (v_hv &&& (-4 : Int32), p0 &&& (-4 : Int32), x1) else (if (v_hv &&& (1 : Int32)) = 0 then (v_hv &&& (-4 : Int32), p0 &&& (-4 : Int32), x1) else ((v_hv &&& (-4 : Int32)) + ((4 : Int32) * p1), p0 &&& (-4 : Int32), x1)))
def f_hd_take (v_hv : Int32) (p0 : Int32) (p1 : Int32) (p2 : Int32) : Int32 × Int32 × Int32 := (if p2 = 0 then (f_hd_take_21 v_hv p0 p1 p2 p1) else (f_hd_take_21 v_hv p0 p1 p2 (p1 ||| (-2147483648 : Int32))))
set_option maxHeartbeats 4000000 in
set_option maxRecDepth 100000 in
theorem c_hd_take (l : Launch) (D : va_G) (k : k3) (aH : Nat) (sz : Nat) (v_hv : Int32) (v_hb : Int32) (v_hc : Int32) (p0 : Int32) (p1 : Int32) (p2 : Int32) : Met l y_hd_take (Cond.code y_hd_take b_hd_take 5 (some .int) :: uW) ({ frames := 0, cells := 0, slots := 0, locals := 0 }) (va_Pc [.ref aH, .int p0, .int p1, .int p2] (pr_ D k sz [(aH, .inr (2, [.int v_hv, .int v_hb, .int v_hc]))])) (va_Qi (fun (r : Int32) (_ : Unit) => r = (f_hd_take v_hv p0 p1 p2).1) (fun _ t => po_ D k (va_A [(aH, .inr (2, [.int v_hv, .int v_hb, .int v_hc]))] sz) [(aH, .inr (2, [.int v_hv, .int ((f_hd_take v_hv p0 p1 p2).2.1), .int ((f_hd_take v_hv p0 p1 p2).2.2)]))] t) (va_A [(aH, .inr (2, [.int v_hv, .int v_hb, .int v_hc]))] sz)) 0 0 (va_A [(aH, .inr (2, [.int v_hv, .int v_hb, .int v_hc]))] sz) := by
  refine en_ (by decide) ?_
  intro p e s m below meth c hsz hx hb hr hml hown hts hlocks hin hP hK hD hN hV
  subst hsz
  generalize hAe : va_A [(aH, .inr (2, [.int v_hv, .int v_hb, .int v_hc]))] s.heap.size = A at hD hV ⊢
  have hA : ∀ q : Nat, s.heap.size ≤ q → A q := fun q h => by rw [← hAe]; exact Or.inr h
  have hS : va_S A s.heap s.heap [] := va_S.rf
  have hF : f_hd_take v_hv p0 p1 p2 = f_hd_take v_hv p0 p1 p2 := rfl
  have hl := lv_entry ([.ref aH, .int p0, .int p1, .int p2]) (n := 5) (Nat.le_of_ble_eq_true rfl)
  rw [lg_entry_eq]
  generalize (lg_sl ([.ref aH, .int p0, .int p1, .int p2]) ++ List.replicate (5 - (lg_sl ([.ref aH, .int p0, .int p1, .int p2])).length) Slot.unset).toArray = ls at hl ⊢
  have hl : lv_has ls 5 [(0, .ref aH), (1, .int p0), (2, .int p1), (3, .int p2)] := hl
  obtain ⟨H, hH⟩ : ∃ z, z = s.heap := ⟨_, rfl⟩
  have hP : va_P D cls [(aH, .inr (2, [.int v_hv, .int v_hb, .int v_hc]))] H := by rw [hH]; exact hP
  have hS : va_S A s.heap H [] := by rw [hH]; exact hS
  refine wH_ hH ?_
  refine lv_aload_n hx hb d_hd_take_0 rfl (lv_at hl 0 rfl) ?_
  refine lv_iload_n hx hb d_hd_take_1 rfl (lv_at hl 1 rfl) ?_
  refine lv_bipush (v := (-4 : Int32)) hx hb d_hd_take_2 (by decide) ?_
  refine lv_iand hx hb d_hd_take_4 ?_
  refine va_put (D := D) (ci := 2) (v := .int (p0 &&& (-4 : Int32))) (ty := .int) (C := R_hd) (T := T_hd) (N := 3) hx hb hts iu_hd t_hd tk_hd nm_hd hown hK hP hD hS 0 rfl rfl 1 (by decide) (hts _ m_146) (fun _ h9 => h9) rfl (by decide +kernel) rfl rfl (Nat.le_of_ble_eq_true rfl) d_hd_take_5 (fun H locs hP hD hS => ?_)
  have hP : va_P D cls [(aH, .inr (2, [.int v_hv, .int (p0 &&& (-4 : Int32)), .int v_hc]))] H := hP
  have hD : va_D A [(aH, .inr (2, [.int v_hv, .int (p0 &&& (-4 : Int32)), .int v_hc]))] := hD
  refine lv_aload_n hx hb d_hd_take_8 rfl (lv_at hl 0 rfl) ?_
  refine lv_iload_n hx hb d_hd_take_9 rfl (lv_at hl 3 rfl) ?_
  refine jn_ (X := Int32) (A := A) (D := D) (H0 := s.heap) (fun x1 : Int32 => [(aH, .inr (2, [.int v_hv, .int (p0 &&& (-4 : Int32)), .int v_hc]))]) (fun x1 : Int32 => [.int x1, .ref aH]) (fun x1 : Int32 => [(0, .ref aH), (1, .int p0), (2, .int p1), (3, .int p2)]) (fun x1 : Int32 => f_hd_take v_hv p0 p1 p2 = f_hd_take_21 v_hv p0 p1 p2 x1) 21 5 (fun J => ?_) (fun x9 H locs ls hF hP hD hS hl => ?_)
  · refine lv_if_eq (tgt := 20) hx hb d_hd_take_10 (by decide) (fun c1 => ?_) (fun c1 => ?_)
    · refine lv_iload_n hx hb d_hd_take_20 rfl (lv_at hl 2 rfl) ?_
      exact J p1 _ _ _ (by rw [hF]; unfold f_hd_take; rw [if_pos c1]) (hP.sub [0] rfl) (hD.sub [0] (by decide) rfl) hS (lv_sub hl [0, 1, 2, 3] rfl)
    · refine lv_iload_n hx hb d_hd_take_13 rfl (lv_at hl 2 rfl) ?_
      refine lv_ldc (v := (-2147483648 : Int32)) hx hb hown (hts _ m_256) d_hd_take_14 ?_
      refine lv_ior hx hb d_hd_take_16 ?_
      refine lv_goto (tgt := 21) hx hb d_hd_take_17 (by decide) ?_
      exact J (p1 ||| (-2147483648 : Int32)) _ _ _ (by rw [hF]; unfold f_hd_take; rw [if_neg c1]) (hP.sub [0] rfl) (hD.sub [0] (by decide) rfl) hS (lv_sub hl [0, 1, 2, 3] rfl)
  · obtain ⟨x1, rfl⟩ : ∃ z, z = x9 := ⟨_, rfl⟩
    have hF : f_hd_take v_hv p0 p1 p2 = f_hd_take_21 v_hv p0 p1 p2 x1 := hF
    have hP : va_P D cls [(aH, .inr (2, [.int v_hv, .int (p0 &&& (-4 : Int32)), .int v_hc]))] H := hP
    have hD : va_D A [(aH, .inr (2, [.int v_hv, .int (p0 &&& (-4 : Int32)), .int v_hc]))] := hD
    have hl : lv_has ls 5 [(0, .ref aH), (1, .int p0), (2, .int p1), (3, .int p2)] := hl
    refine W.eq (g2 := F0 m 21 ls [.int x1, .ref aH]) rfl ?_
    refine va_put (D := D) (ci := 2) (v := .int x1) (ty := .int) (C := R_hd) (T := T_hd) (N := 3) hx hb hts iu_hd t_hd tk_hd nm_hd hown hK hP hD hS 0 rfl rfl 2 (by decide) (hts _ m_149) (fun _ h9 => h9) rfl (by decide +kernel) rfl rfl (Nat.le_of_ble_eq_true rfl) d_hd_take_21 (fun H locs hP hD hS => ?_)
    have hP : va_P D cls [(aH, .inr (2, [.int v_hv, .int (p0 &&& (-4 : Int32)), .int x1]))] H := hP
    have hD : va_D A [(aH, .inr (2, [.int v_hv, .int (p0 &&& (-4 : Int32)), .int x1]))] := hD
    refine lv_aload_n hx hb d_hd_take_24 rfl (lv_at hl 0 rfl) ?_
    refine va_get (D := D) (ci := 2) (v := .int v_hv) (C := R_hd) (T := T_hd) (N := 3) hx hb hts iu_hd hown hK hP 0 rfl rfl 0 (by decide) (hts _ m_144) (fun _ h9 => h9) rfl d_hd_take_25 ?_
    refine lv_bipush (v := (-4 : Int32)) hx hb d_hd_take_28 (by decide) ?_
    refine lv_iand hx hb d_hd_take_30 ?_
    refine lv_istore (lv' := [(4, .int (v_hv &&& (-4 : Int32))), (0, .ref aH), (1, .int p0), (2, .int p1), (3, .int p2)]) hx hb d_hd_take_31 hl (by decide) rfl (fun ls hl => ?_)
    refine lv_iload_n hx hb d_hd_take_33 rfl (lv_at hl 4 rfl) ?_
    refine lv_if_eq (tgt := 55) hx hb d_hd_take_34 (by decide) (fun c1 => ?_) (fun c1 => ?_)
    · refine lv_iload hx hb d_hd_take_55 (lv_at hl 0 rfl) ?_
      have hE : f_hd_take v_hv p0 p1 p2 = (v_hv &&& (-4 : Int32), p0 &&& (-4 : Int32), x1) := by
        rw [hF]; unfold f_hd_take_21; rw [if_pos c1]
      rw [hE]
      exact rt_i hx hb hr hlocks hP hD hK hS [0] rfl (by decide) rfl rfl d_hd_take_57
    · refine lv_aload_n hx hb d_hd_take_37 rfl (lv_at hl 1 rfl) ?_
      refine va_get (D := D) (ci := 2) (v := .int v_hv) (C := R_hd) (T := T_hd) (N := 3) hx hb hts iu_hd hown hK hP 0 rfl rfl 0 (by decide) (hts _ m_144) (fun _ h9 => h9) rfl d_hd_take_38 ?_
      refine lv_iconst (v := (1 : Int32)) hx hb d_hd_take_41 (by decide) ?_
      refine lv_iand hx hb d_hd_take_42 ?_
      refine lv_if_eq (tgt := 55) hx hb d_hd_take_43 (by decide) (fun c2 => ?_) (fun c2 => ?_)
      · refine lv_iload hx hb d_hd_take_55 (lv_at hl 0 rfl) ?_
        have hE : f_hd_take v_hv p0 p1 p2 = (v_hv &&& (-4 : Int32), p0 &&& (-4 : Int32), x1) := by
          rw [hF]; unfold f_hd_take_21; rw [if_neg c1, if_pos c2]
        rw [hE]
        exact rt_i hx hb hr hlocks hP hD hK hS [0] rfl (by decide) rfl rfl d_hd_take_57
      · refine lv_iload hx hb d_hd_take_46 (lv_at hl 0 rfl) ?_
        refine lv_iconst (v := (4 : Int32)) hx hb d_hd_take_48 (by decide) ?_
        refine lv_iload_n hx hb d_hd_take_49 rfl (lv_at hl 3 rfl) ?_
        refine lv_imul hx hb d_hd_take_50 ?_
        refine lv_iadd hx hb d_hd_take_51 ?_
        refine lv_goto (tgt := 57) hx hb d_hd_take_52 (by decide) ?_
        have hE : f_hd_take v_hv p0 p1 p2 = ((v_hv &&& (-4 : Int32)) + ((4 : Int32) * p1), p0 &&& (-4 : Int32), x1) := by
          rw [hF]; unfold f_hd_take_21; rw [if_neg c1, if_neg c2]
        rw [hE]
        exact rt_i hx hb hr hlocks hP hD hK hS [0] rfl (by decide) rfl rfl d_hd_take_57
