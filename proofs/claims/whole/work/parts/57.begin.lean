theorem start_K {s : State} {b : Nat} (hts0 : ∀ w ∈ lw_tbl, w.before #[Value.ref b] s = true) : ∃ (D : va_G) (k : k3), va_K D cls (tys k) s := by
  obtain ⟨c0, i0, h0⟩ := u_known (C := R_ct) (T := T_ct) (N := 4) (n := 4) hts0 (fun w h => uW_lw (iu_ct w h)) (hts0 _ (uW_lw m_65))
  obtain ⟨c1, i1, h1⟩ := u_known (C := R_dv) (T := T_dv) (N := 4) (n := 4) hts0 (fun w h => uW_lw (iu_dv w h)) (hts0 _ (uW_lw m_27))
  obtain ⟨c2, i2, h2⟩ := u_known (C := R_hd) (T := T_hd) (N := 3) (n := 3) hts0 (fun w h => uW_lw (iu_hd w h)) (hts0 _ (uW_lw m_139))
  obtain ⟨c3, i3, h3⟩ := u_known (C := R_rg) (T := T_rg) (N := 8) (n := 8) hts0 (fun w h => uW_lw (iu_rg w h)) (hts0 _ (uW_lw m_122))
  obtain ⟨c4, i4, h4⟩ := u_known (C := R_so) (T := T_so) (N := 6) (n := 6) hts0 (fun w h => uW_lw (iu_so w h)) (hts0 _ (uW_lw m_33))
  obtain ⟨c5, i5, h5⟩ := u_known (C := R_st) (T := T_st) (N := 1) (n := 1) hts0 (fun w h => uW_lw (iu_st w h)) (hts0 _ (uW_lw m_128))
  obtain ⟨c6, i6, h6⟩ := u_known (C := R_tm) (T := T_tm) (N := 3) (n := 3) hts0 (fun w h => uW_lw (iu_tm w h)) (hts0 _ (uW_lw m_86))
  obtain ⟨c7, i7, h7⟩ := u_known (C := R_th) (T := T_th) (N := 4) (n := 4) hts0 (fun w h => uW_lw (iu_th w h)) (hts0 _ (uW_lw m_19))
  obtain ⟨c8, i8, h8⟩ := u_known (C := R_mo) (T := T_mo) (N := 22) (n := 22) hts0 (fun w h => uW_lw (iu_mo w h)) (hts0 _ (uW_lw m_600))
  obtain ⟨aI, kI, pI, xI, yI, zI⟩ := Cond.arrayClass_spec (hts0 _ (uW_lw m_63))
  obtain ⟨aZ, kZ, pZ, xZ, yZ, zZ⟩ := Cond.arrayClass_spec (hts0 _ (uW_lw m_673))
  obtain ⟨aJ, kJ, pJ, xJ, yJ, zJ⟩ := Cond.arrayClass_spec (hts0 _ (uW_lw m_820))
  refine ⟨(fun q => if q = 0 then c0 else if q = 1 then c1 else if q = 2 then c2 else if q = 3 then c3 else if q = 4 then c4 else if q = 5 then c5 else if q = 6 then c6 else if q = 7 then c7 else c8, fun q => if q = 0 then i0 else if q = 1 then i1 else if q = 2 then i2 else if q = 3 then i3 else if q = 4 then i4 else if q = 5 then i5 else if q = 6 then i6 else if q = 7 then i7 else i8), (aI, aZ, aJ), ⟨fun q r hq => ?_, fun q r hq => ?_⟩⟩
  · match q, hq with
    | 0, hq => cases hq; exact h0
    | 1, hq => cases hq; exact h1
    | 2, hq => cases hq; exact h2
    | 3, hq => cases hq; exact h3
    | 4, hq => cases hq; exact h4
    | 5, hq => cases hq; exact h5
    | 6, hq => cases hq; exact h6
    | 7, hq => cases hq; exact h7
    | 8, hq => cases hq; exact h8
    | q + 9, hq => simp [cls] at hq
  · match q, hq with
    | 0, hq => cases hq; exact ⟨fun n z => ⟨fun k h => (by cases h), kI, yI, pI, zI⟩, xI⟩
    | 1, hq => cases hq; exact ⟨fun n z => ⟨fun k h => (by cases h), kZ, yZ, pZ, zZ⟩, xZ⟩
    | 2, hq => cases hq; exact ⟨fun n z => ⟨fun k h => (by cases h), kJ, yJ, pJ, zJ⟩, xJ⟩
    | q + 3, hq => simp [tys] at hq
theorem lw_t {w : Cond} {i : Nat} (h : tables_1[i]? = some w) : w ∈ lw_tbl := List.mem_append_right _ (List.mem_of_getElem? h)
theorem start_s {args : Array Value} {s : State} {own tx : String} {k : Nat} (h1 : (Cond.stringRef own k tx).before args s = true) (h2 : (Cond.exactly (.string own k) "java/lang/String").before args s = true) : ∃ a, vk_R own k tx a s := by
  obtain ⟨a, c, cell, k', he, -⟩ := Cond.exactly_spec h2
  exact ⟨a, vk_R.of h1 he⟩
theorem start_N {s : State} {b : Nat} (hts0 : ∀ w ∈ lw_tbl, w.before #[Value.ref b] s = true) (hgv : (Jvm.Cond.and given_1 narrow_1).before #[Value.ref b] s = true) : NE s := by
  have hs := flat_of_before _ hgv
  refine ⟨fun w hw => va_Nw.of (nL_tab w hw) (hts0 w (List.mem_append_right _ (nL_in w hw))), fun q hq => ?_, fun q hq => ?_, fun q hq => ?_, fun x hx => ?_⟩
  · simp only [sL, List.mem_cons, List.not_mem_nil, or_false] at hq
    rcases hq with rfl | rfl | rfl | rfl | rfl | rfl | rfl | rfl
    · exact start_s (hts0 _ (lw_t (i := 401) (by decide +kernel))) (hs (.exactly (.string "TrapHart" 48) "java/lang/String") (by decide +kernel))
    · exact start_s (hts0 _ (lw_t (i := 439) (by decide +kernel))) (hs (.exactly (.string "TrapHart" 155) "java/lang/String") (by decide +kernel))
    · exact start_s (hts0 _ (lw_t (i := 449) (by decide +kernel))) (hs (.exactly (.string "TrapHart" 157) "java/lang/String") (by decide +kernel))
    · exact start_s (hts0 _ (lw_t (i := 473) (by decide +kernel))) (hs (.exactly (.string "TrapHart" 76) "java/lang/String") (by decide +kernel))
    · exact start_s (hts0 _ (lw_t (i := 505) (by decide +kernel))) (hs (.exactly (.string "TrapHart" 165) "java/lang/String") (by decide +kernel))
    · exact start_s (hts0 _ (lw_t (i := 524) (by decide +kernel))) (hs (.exactly (.string "TrapHart" 116) "java/lang/String") (by decide +kernel))
    · exact start_s (hts0 _ (lw_t (i := 575) (by decide +kernel))) (hs (.exactly (.string "TrapHart" 112) "java/lang/String") (by decide +kernel))
    · exact start_s (hts0 _ (lw_t (i := 598) (by decide +kernel))) (hs (.exactly (.string "TrapHart" 145) "java/lang/String") (by decide +kernel))
  · simp only [cL, List.mem_cons, List.not_mem_nil, or_false] at hq
    rcases hq with rfl | rfl | rfl | rfl | rfl
    · exact va_Nw.of rfl (hts0 _ (lw_t (i := 360) (by decide +kernel)))
    · exact va_Nw.of rfl (hts0 _ (lw_t (i := 442) (by decide +kernel)))
    · exact va_Nw.of rfl (hts0 _ (lw_t (i := 466) (by decide +kernel)))
    · exact va_Nw.of rfl (hts0 _ (lw_t (i := 498) (by decide +kernel)))
    · exact va_Nw.of rfl (hts0 _ (lw_t (i := 517) (by decide +kernel)))
  · simp only [pN, List.mem_cons, List.not_mem_nil, or_false] at hq
    rcases hq with rfl | rfl | rfl | rfl
    · exact va_Nc.of (hs (.not (.castable "java/lang/IndexOutOfBoundsException" "java/lang/IllegalArgumentException")) (by decide +kernel))
    · exact va_Nc.of (hs (.not (.castable "java/lang/UnsupportedOperationException" "java/lang/IllegalArgumentException")) (by decide +kernel))
    · exact va_Nc.of (hs (.not (.castable "java/lang/UnsupportedOperationException" "java/lang/IndexOutOfBoundsException")) (by decide +kernel))
    · exact va_Nc.of (hs (.not (.castable "java/lang/IllegalStateException" "java/util/NoSuchElementException")) (by decide +kernel))
  · simp only [dL, List.mem_cons, List.not_mem_nil, or_false] at hx
    rcases hx with rfl | rfl | rfl
    · exact va_Nw.of rfl (hts0 _ (lw_t (i := 362) (by decide +kernel)))
    · exact va_Nw.of rfl (hts0 _ (lw_t (i := 364) (by decide +kernel)))
    · exact va_Nw.of rfl (hts0 _ (lw_t (i := 366) (by decide +kernel)))
theorem start_V {s : State} {b : Nat} (hts0 : ∀ w ∈ lw_tbl, w.before #[Value.ref b] s = true) (hgv : (Jvm.Cond.and given_1 narrow_1).before #[Value.ref b] s = true) : EV (fun q : Nat => s.heap.size ≤ q) s s.heap := by
  have hs := flat_of_before _ hgv
  have hA : ∀ a : Nat, a < s.heap.size → ¬ (fun q : Nat => s.heap.size ≤ q) a := fun a h => Nat.not_le.mpr h
  refine ⟨?_, zS.of (args := #[Value.ref b]) (hts0 _ (lw_t (i := 385) (by decide +kernel))) (hs (.isRef (.static "java/lang/Throwable" "UNASSIGNED_STACK" "[Ljava/lang/StackTraceElement;")) (by decide +kernel)) hA, zS.of (args := #[Value.ref b]) (hts0 _ (lw_t (i := 387) (by decide +kernel))) (hs (.isRef (.static "java/lang/Throwable" "SUPPRESSED_SENTINEL" "Ljava/util/List;")) (by decide +kernel)) hA⟩
  obtain ⟨t, ht, hT⟩ := va_Tof (args := #[Value.ref b]) (s := s) (tm := .static "TrapHart$Registers" "ORDER" "[I") (ty := .int) (N := 6) (f := fun j => .int (od9 j)) (A := fun q : Nat => s.heap.size ≤ q) (by decide) (hs (.arrayOf (.static "TrapHart$Registers" "ORDER" "[I") .int) (by decide +kernel)) (va_eqt (hs (.eq (.length (.static "TrapHart$Registers" "ORDER" "[I")) (.int 6)) (by decide +kernel))) (fun j hj => by
    match j, hj with
    | 0, _ => exact va_eqt (hs (.eq (.elem (.static "TrapHart$Registers" "ORDER" "[I") (.int 0)) (.int 11)) (by decide +kernel))
    | 1, _ => exact va_eqt (hs (.eq (.elem (.static "TrapHart$Registers" "ORDER" "[I") (.int 1)) (.int 3)) (by decide +kernel))
    | 2, _ => exact va_eqt (hs (.eq (.elem (.static "TrapHart$Registers" "ORDER" "[I") (.int 2)) (.int 7)) (by decide +kernel))
    | 3, _ => exact va_eqt (hs (.eq (.elem (.static "TrapHart$Registers" "ORDER" "[I") (.int 3)) (.int 9)) (by decide +kernel))
    | 4, _ => exact va_eqt (hs (.eq (.elem (.static "TrapHart$Registers" "ORDER" "[I") (.int 4)) (.int 1)) (by decide +kernel))
    | 5, _ => exact va_eqt (hs (.eq (.elem (.static "TrapHart$Registers" "ORDER" "[I") (.int 5)) (.int 5)) (by decide +kernel))
    | j + 6, h => exact absurd h (by omega)) hA
  exact ⟨t, va_Zref (args := #[Value.ref b]) (hts0 _ (lw_t (i := 330) (by decide +kernel))) (hts0 _ (uW_lw m_6)) ht hA, hT⟩
