def xbad (X : String) (w : Cond) : Bool := decide (w = .castable X X) || (decide (w = .laysStatic Bundle.tN "UNASSIGNED_STACK" Bundle.steD) || (decide (w = .laysStatic Bundle.tN "SUPPRESSED_SENTINEL" Bundle.listD) || (decide (w = .isRef (.static Bundle.tN "UNASSIGNED_STACK" Bundle.steD)) || (decide (w = .isRef (.static Bundle.tN "SUPPRESSED_SENTINEL" Bundle.listD)) || (decide (w = .declares (Bundle.initS "java/lang/RuntimeException")) || (decide (w = .declares (Bundle.initS "java/lang/Exception")) || decide (w = .declares (Bundle.initS "java/lang/Throwable"))))))))
theorem xw_of {own X : String} {ic i1 : Nat} {b1 : ByteArray} {args : Array Value} {s : State} {A : Nat → Prop} (hts : ∀ w ∈ uW, w.before args s = true) (hN : NE s) (hV : EV A s s.heap) (hc : (X, X) ∈ cL) (hg : (xw own ic X i1 b1).all (fun w => xbad X w || decide (w ∈ uW)) = true) : ∀ w ∈ xw own ic X i1 b1, w.before args s = true := by
  intro w hw
  have h := List.all_eq_true.mp hg w hw
  rcases Bool.or_eq_true_iff.mp h with h | h
  · unfold xbad at h
    simp only [Bool.or_eq_true, decide_eq_true_eq] at h
    rcases h with rfl | rfl | rfl | rfl | rfl | rfl | rfl | rfl
    · exact va_Nw.use rfl (hN.2.2.1 _ hc)
    · exact hV.2.1.lays
    · exact hV.2.2.lays
    · exact hV.2.1.isRef
    · exact hV.2.2.isRef
    · exact va_Nw.use rfl (hN.2.2.2.2 _ (by simp [dL]))
    · exact va_Nw.use rfl (hN.2.2.2.2 _ (by simp [dL]))
    · exact va_Nw.use rfl (hN.2.2.2.2 _ (by simp [dL]))
  · exact hts w (of_decide_eq_true h)
theorem xg_IA : (xw "TrapHart" 50 "java/lang/IllegalArgumentException" 7 Bundle.six).all (fun w => xbad "java/lang/IllegalArgumentException" w || decide (w ∈ uW)) = true := by decide +kernel
theorem xg_UO : (xw "TrapHart" 78 "java/lang/UnsupportedOperationException" 7 Bundle.six).all (fun w => xbad "java/lang/UnsupportedOperationException" w || decide (w ∈ uW)) = true := by decide +kernel
theorem xg_IS : (xw "TrapHart" 118 "java/lang/IllegalStateException" 7 Bundle.six).all (fun w => xbad "java/lang/IllegalStateException" w || decide (w ∈ uW)) = true := by decide +kernel
theorem xg_IO : (xw "TrapHart" 147 "java/lang/IndexOutOfBoundsException" 7 Bundle.six).all (fun w => xbad "java/lang/IndexOutOfBoundsException" w || decide (w ∈ uW)) = true := by decide +kernel
theorem xg_NS : (xw "TrapHart" 167 "java/util/NoSuchElementException" 13 prog_19_method_4_code).all (fun w => xbad "java/util/NoSuchElementException" w || decide (w ∈ uW)) = true := by decide +kernel
