-- ===== the links of a nest: what a state must know of them =====
def isN : Cond → Bool
  | .fieldLinkNest .. => true
  | .methodLinkNest .. => true
  | _ => false
theorem isN_spec (w : Cond) (h : isN w = true) : (∃ a i b n d t, w = .fieldLinkNest a i b n d t) ∨ (∃ a i x t, w = .methodLinkNest a i x t) := by
  unfold isN at h
  split at h
  · exact Or.inl ⟨_, _, _, _, _, _, rfl⟩
  · exact Or.inr ⟨_, _, _, _, rfl⟩
  · cases h
theorem nL_is : ∀ w ∈ nL, isN w = true := by decide +kernel
theorem nL_tab : ∀ w ∈ nL, w.onTables = true := by decide +kernel
def sL : List (String × Nat × String) := [("TrapHart", 48, "ticks below 0"), ("TrapHart", 155, "the address is not divisible by 4"), ("TrapHart", 157, "no word at the address"), ("TrapHart", 76, "the word is fixed"), ("TrapHart", 165, "no such register"), ("TrapHart", 116, "the privilege is too low"), ("TrapHart", 112, "no such exception"), ("TrapHart", 145, "no such source")]
def cL : List (String × String) := [("java/lang/IllegalArgumentException", "java/lang/IllegalArgumentException"), ("java/lang/IndexOutOfBoundsException", "java/lang/IndexOutOfBoundsException"), ("java/lang/UnsupportedOperationException", "java/lang/UnsupportedOperationException"), ("java/util/NoSuchElementException", "java/util/NoSuchElementException"), ("java/lang/IllegalStateException", "java/lang/IllegalStateException")]
def pN : List (String × String) := [("java/lang/IndexOutOfBoundsException", "java/lang/IllegalArgumentException"), ("java/lang/UnsupportedOperationException", "java/lang/IllegalArgumentException"), ("java/lang/UnsupportedOperationException", "java/lang/IndexOutOfBoundsException"), ("java/lang/IllegalStateException", "java/util/NoSuchElementException")]
def dL : List MethodName := [Bundle.initS "java/lang/RuntimeException", Bundle.initS "java/lang/Exception", Bundle.initS "java/lang/Throwable"]
def NE (U : State) : Prop := (∀ w ∈ nL, va_Nw w U) ∧ (∀ q ∈ sL, ∃ a, vk_R q.1 q.2.1 q.2.2 a U) ∧ (∀ q ∈ cL, va_Nw (.castable q.1 q.2) U) ∧ (∀ q ∈ pN, va_Nc q.1 q.2 U) ∧ ∀ x ∈ dL, va_Nw (.declares x) U
theorem NE.same {u U : State} (h : u.vm = U.vm) (hN : NE u) : NE U := ⟨fun w hw => va_Nw.same (nL_tab w hw) h (hN.1 w hw), fun q hq => by obtain ⟨a, ha⟩ := hN.2.1 q hq; exact ⟨a, vk_R.same h.symm ha⟩, fun q hq => va_Nw.same rfl h (hN.2.2.1 q hq), fun q hq => va_Nc.moved (by rw [h]; exact Vm.Alike.refl _) (hN.2.2.2.1 q hq), fun x hx => va_Nw.same rfl h (hN.2.2.2.2 x hx)⟩
theorem NE.warm {s U : State} (hW : s.WarmedH U.vm) (hN : NE s) : NE U := by
  refine ⟨fun w hw => ?_, fun q hq => ?_, fun q hq => ?_, fun q hq => va_Nc.moved hW.alike (hN.2.2.2.1 q hq), fun x hx => va_Nw.warmD hW (hN.2.2.2.2 x hx)⟩
  · rcases isN_spec w (nL_is w hw) with ⟨a, i, b, n, d, t, rfl⟩ | ⟨a, i, x, t, rfl⟩
    · exact va_Nw.warmF hW (hN.1 _ hw)
    · exact va_Nw.warmM hW (hN.1 _ hw)
  · obtain ⟨a, ha⟩ := hN.2.1 q hq
    exact ⟨a, vk_R.warm hW ha⟩
  · have h1 := hN.2.2.1 q hq
    have h2 := Cond.castable_setVm (args := #[]) hW.alike q.1 q.2
    exact va_tabs rfl (rfl : (s.setVm U.vm).vm = U.vm) (h2.trans h1)
theorem NE.use {s : State} (hN : NE s) {args : Array Value} {w : Cond} (hw : w ∈ nL) : w.before args s = true := va_Nw.use (nL_tab w hw) (hN.1 w hw)
-- ===== what lies outside of all worlds: a static table, two statics of Throwable =====
def od9 : Nat → Int32 := fun j => match j with | 0 => 11 | 1 => 3 | 2 => 7 | 3 => 9 | 4 => 1 | _ => 5
def zS (O n d : String) (A : Nat → Prop) (U : State) (H : Heap) : Prop := ∃ (c : ClassId) (k : Class) (i : Nat) (f : Field) (a : Nat) (cell : Cell) (v : Value), U.vm.findClass O = some c ∧ U.fieldFound? O n d = some (c, k, i, f) ∧ f.isStatic = true ∧ k.statics = some a ∧ H[a]? = some cell ∧ cell.vm.isStatics = true ∧ cell.cls = c ∧ f.slot < cell.slots.size ∧ k.staticTypes[f.slot]? = some f.type ∧ cell.slots[f.slot]? = some v ∧ v.isRef = true ∧ ¬ A a
theorem zS.go {O n d : String} {A B : Nat → Prop} {u U : State} {H H1 : Heap} (h : zS O n d A u H) (hvm : u.vm.Alike U.vm) (hk : ∀ a : Nat, a < H.size → ¬ A a → H1[a]? = H[a]?) (hAB : ∀ q, B q → A q) : zS O n d B U H1 := by
  obtain ⟨c, k, i, f, a, cell, v, h0, h1, h2, h3, h4, h5, h6, h7, h8, h9, h10, h11⟩ := h
  obtain ⟨k', hi', he⟩ := State.fieldFound?_setVm hvm h1
  exact ⟨c, k', i, f, a, cell, v, by rw [hvm.findClass]; exact h0, hi', h2, by rw [he]; exact h3, by rw [hk a (Array.getElem?_eq_some_iff.mp h4).1 h11]; exact h4, h5, h6, h7, by rw [he]; exact h8, h9, h10, fun z => h11 (hAB a z)⟩
theorem zS.lays {O n d : String} {A : Nat → Prop} {s : State} {args : Array Value} (h : zS O n d A s s.heap) : (Cond.laysStatic O n d).before args s = true := by
  obtain ⟨c, k, i, f, a, cell, v, h0, h1, h2, h3, h4, h5, h6, h7, h8, h9, h10, h11⟩ := h
  simp [Cond.before, Cond.holds, Cond.value, h0, h1, h2, h3, h4, h5, h6, h7, h8]
theorem zS.isRef {O n d : String} {A : Nat → Prop} {s : State} {args : Array Value} (h : zS O n d A s s.heap) : (Cond.isRef (.static O n d)).before args s = true := by
  obtain ⟨c, k, i, f, a, cell, v, h0, h1, h2, h3, h4, h5, h6, h7, h8, h9, h10, h11⟩ := h
  have he : (Term.static O n d).eval args s none [] s = some v := by
    simp [Term.eval, State.fieldNamed?, h1, h2, h3, h4, h5, h9]
  simp only [Cond.before, Cond.holds, Cond.value, he]
  cases v <;> simp_all [Value.isRef]
theorem zS.of {O n d : String} {A : Nat → Prop} {s : State} {args : Array Value} (hl : (Cond.laysStatic O n d).before args s = true) (hr : (Cond.isRef (.static O n d)).before args s = true) (hA : ∀ a : Nat, a < s.heap.size → ¬ A a) : zS O n d A s s.heap := by
  obtain ⟨c, k, i, f, a, cell, hc, hi, hst, ha, hcell, hs, hcls, hlt, hty⟩ := Cond.laysStatic_spec hl
  have hv : cell.slots[f.slot]? = some cell.slots[f.slot] := Array.getElem?_eq_getElem hlt
  have he : (Term.static O n d).eval args s none [] s = some cell.slots[f.slot] := by
    simp [Term.eval, State.fieldNamed?, hi, hst, ha, hcell, hs, hv]
  refine ⟨c, k, i, f, a, cell, _, hc, hi, hst, ha, hcell, hs, hcls, hlt, hty, hv, ?_, hA a (Array.getElem?_eq_some_iff.mp hcell).1⟩
  simp only [Cond.before, Cond.holds, Cond.value, he] at hr
  cases hz : cell.slots[f.slot] <;> simp_all [Value.isRef]
def EV (A : Nat → Prop) (U : State) (H : Heap) : Prop := (∃ t, va_Z "TrapHart$Registers" "ORDER" "[I" (.ref t) A U H ∧ va_T .int t 6 (fun j => .int (od9 j)) A U H) ∧ zS Bundle.tN "UNASSIGNED_STACK" Bundle.steD A U H ∧ zS Bundle.tN "SUPPRESSED_SENTINEL" Bundle.listD A U H
theorem EV.go {A B : Nat → Prop} {u U : State} {H H1 : Heap} (h : EV A u H) (hvm : u.vm.Alike U.vm) (hk : ∀ a : Nat, a < H.size → ¬ A a → H1[a]? = H[a]?) (hAB : ∀ q, B q → A q) : EV B U H1 := by
  obtain ⟨⟨t, h1, h2⟩, h3, h4⟩ := h
  exact ⟨⟨t, ((h1.moved hvm).kept hk).narrow hAB, ((h2.moved hvm).kept hk).narrow hAB⟩, h3.go hvm hk hAB, h4.go hvm hk hAB⟩
-- ===== worlds: three kinds of arrays; what a method takes, what it leaves =====
abbrev k3 : Type := ClassId × ClassId × ClassId
abbrev tys (k : k3) : List (ClassId × FieldType) := [(k.1, .int), (k.2.1, .boolean), (k.2.2, .long)]
def pr_ (D : va_G) (k : k3) (sz : Nat) (ws : va_W) (U : State) : Prop := U.heap.size = sz ∧ va_P D cls ws U.heap ∧ va_K D cls (tys k) U ∧ va_D (fun _ => True) ws ∧ NE U ∧ EV (va_A ws sz) U U.heap
def po_ (D : va_G) (k : k3) (A : Nat → Prop) (ws : va_W) (t : State) : Prop := va_P D cls ws t.heap ∧ va_K D cls (tys k) t ∧ va_D A ws
theorem pr_blind {D : va_G} {k : k3} {sz : Nat} {ws : va_W} {av : List Value} : FrameBlind (va_Pc av (pr_ D k sz ws)) := fun a U g mk q => by
  obtain ⟨q0, q1, qP, qK, qD, qN, qV⟩ := q
  exact ⟨q0, q1, qP, va_K.moved (u := U) (U := U.calling g mk a) (Vm.Alike.refl U.vm) qK, qD, NE.same (u := U) (U := U.calling g mk a) rfl qN, EV.go (u := U) (U := U.calling g mk a) qV (Vm.Alike.refl U.vm) (fun _ _ _ => rfl) (fun _ h => h)⟩
section BASE
variable {p : Program} {l : Launch} {e : Env} {R : Room} {s : State} {m : MethodId} {args : Array Value} {below : List Frame} {meth : Method} {c : Code} {H : Heap} {locs : List Loc} {cells slots : Nat} {Q : State → Prop}
variable {D : va_G} {k : k3} {A : Nat → Prop} {ws wc wr w1 : va_W}
variable {y : MethodName} {bytes cc : ByteArray} {maxL nLc mc ms n index : Nat} {ret : Option FieldType} {rm : Room} {Qc : Array Value → State → Outcome → State → Prop} {free : Addr → Prop} {own C host : String} {b : Addr} {As rest : List Value} {g : JFrame}
theorem cut_ (hP : va_P D cls ws H) (hK : va_K D cls (tys k) s) (hD : va_D A ws) (hN : NE s) (hV : EV A s s.heap) (hS : va_S A s.heap H locs) (hA : ∀ q, s.heap.size ≤ q → A q) {isC : List Nat} (hC : isC.map (fun i => ws[i]?) = wc.map some) (hn : va_nd isC = true) {av : List Value} : ∀ U : State, U.heap = H → s.WarmedH U.vm → va_Pc av (pr_ D k H.size wc) av.toArray U := by
  intro U hU hW
  have hC2 : isC.filterMap (fun i => ws[i]?) = wc := by
    have h0 : isC.filterMap (fun i => ws[i]?) = (isC.map (fun i => ws[i]?)).filterMap id := by rw [List.filterMap_map]; rfl
    rw [h0, hC, List.filterMap_map]
    exact List.filterMap_some
  exact ⟨rfl, by rw [hU], by rw [hU]; exact hP.sub isC hC2, va_K.moved hW.alike hK, (hD.sub isC hn hC).weaken (fun _ _ _ _ => trivial), NE.warm hW hN, by rw [hU]; exact hV.go hW.alike hS.2.1 (va_free (wc := wc) hD hS hA isC hC)⟩
theorem rec_ (hP : va_P D cls ws H) (hK : va_K D cls (tys k) s) {isC : List Nat} (hC : isC.map (fun i => ws[i]?) = wc.map some) {ci : Nat} {fs : List Value} (h0 : wc[0]? = some (b, .inr (ci, fs))) {q : vw_C} (hc : cls[ci]? = some q) (hq : q.1 = C) : ∃ cellB : Cell, H[b]? = some cellB ∧ cellB.vm.isStatics = false ∧ s.vm.findClass C = some cellB.cls := by
  subst hq
  have h1 : (isC.map (fun i => ws[i]?))[0]? = some (some (b, .inr (ci, fs))) := by rw [hC, List.getElem?_map, h0]; rfl
  rw [List.getElem?_map] at h1
  cases hi : isC[0]? with
  | none => rw [hi] at h1; cases h1
  | some i => rw [hi] at h1; exact va_recv hK hP hc (Option.some.inj h1)
/-- a virtual call of a method of the same class -/
theorem rn_V (F : CallFix p m c cc nLc s args uW own) (hM : Met l y (Cond.code y bytes maxL ret :: uW) rm (va_Pc (.ref b :: As) (pr_ D k H.size wc)) Qc mc ms free) (hG : GoodIn uW (wsV own index C y (Cond.code y bytes maxL ret :: uW))) (hrc : rm.cells = mc) (hrs : rm.slots = ms)
    (hd : y.cls = C ∧ y.cls ≠ "java/lang/invoke/MethodHandle" ∧ y.cls ≠ "java/lang/invoke/VarHandle" ∧ (parseMethodDescriptor y.desc).map (fun d => d.parameters.length) = some n) (hR : rm.frames + 1 ≤ R.frames ∧ 8 + (maxL + 11) + rm.locals ≤ R.locals)
    (hP : va_P D cls ws H) (hK : va_K D cls (tys k) s) (hD : va_D A ws) (hN : NE s) (hV : EV A s s.heap) (hS : va_S A s.heap H locs) (hA : ∀ q, s.heap.size ≤ q → A q) {isC : List Nat} (hC : isC.map (fun i => ws[i]?) = wc.map some) (hn9 : va_nd isC = true) {ci : Nat} {fs : List Value} (h0 : wc[0]? = some (b, .inr (ci, fs))) {q : vw_C} (hc : cls[ci]? = some q) (hq : q.1 = C)
    (hg : g.method = m) (hn : As.length = n) (hsize : g.locals.size = nLc) (hstack : g.stack = As.reverse ++ .ref b :: rest) (hW : 2 * g.monitorRoom + (rest.map fun v => v.category).sum ≤ 8) (hdg : decode cc g.pc = .ok (.invokevirtual index, 3)) (hf : cells + mc ≤ R.cells ∧ slots + ms ≤ R.slots) :
    va_Run p l e R s m args below meth c H locs cells slots mc ms g rest (Qc (Value.ref b :: As).toArray) free :=
  va_runV F hM (cwV n F.2.2.2.2 hG rfl hrc hrs hd hR) ⟨pr_blind, rec_ hP hK hC h0 hc hq, cut_ hP hK hD hN hV hS hA hC hn9⟩ hg hn hsize hstack hW hdg hf
/-- of a private method of a nest mate -/
theorem rn_VN (F : CallFix p m c cc nLc s args uW own) (hM : Met l y (Cond.code y bytes maxL ret :: uW) rm (va_Pc (.ref b :: As) (pr_ D k H.size wc)) Qc mc ms free) (hlk : Cond.methodLinkNest own index y host ∈ nL) (h1 : Cond.instanceMethod y ∈ uW) (h2 : Cond.selects C y y ∈ uW) (h3 : Cond.initialized y.cls ∈ uW) (h4 : Cond.code y bytes maxL ret ∈ uW) (hrc : rm.cells = mc) (hrs : rm.slots = ms)
    (hd : y.cls ≠ "java/lang/invoke/MethodHandle" ∧ y.cls ≠ "java/lang/invoke/VarHandle" ∧ (parseMethodDescriptor y.desc).map (fun d => d.parameters.length) = some n) (hR : rm.frames + 1 ≤ R.frames ∧ 8 + (maxL + 11) + rm.locals ≤ R.locals)
    (hP : va_P D cls ws H) (hK : va_K D cls (tys k) s) (hD : va_D A ws) (hN : NE s) (hV : EV A s s.heap) (hS : va_S A s.heap H locs) (hA : ∀ q, s.heap.size ≤ q → A q) {isC : List Nat} (hC : isC.map (fun i => ws[i]?) = wc.map some) (hn9 : va_nd isC = true) {ci : Nat} {fs : List Value} (h0 : wc[0]? = some (b, .inr (ci, fs))) {q : vw_C} (hc : cls[ci]? = some q) (hq : q.1 = C)
    (hg : g.method = m) (hn : As.length = n) (hsize : g.locals.size = nLc) (hstack : g.stack = As.reverse ++ .ref b :: rest) (hW : 2 * g.monitorRoom + (rest.map fun v => v.category).sum ≤ 8) (hdg : decode cc g.pc = .ok (.invokevirtual index, 3)) (hf : cells + mc ≤ R.cells ∧ slots + ms ≤ R.slots) :
    va_Run p l e R s m args below meth c H locs cells slots mc ms g rest (Qc (Value.ref b :: As).toArray) free :=
  va_runVN F hM ⟨va_cnB n F.2.2.2.2 (gd_I uW_id h4) rfl hrc hrs (hN.1 _ hlk) (F.2.2.2.2 _ h3) hd hR, F.2.2.2.2 _ h1, F.2.2.2.2 _ h2⟩ ⟨pr_blind, rec_ hP hK hC h0 hc hq, cut_ hP hK hD hN hV hS hA hC hn9⟩ hg hn hsize hstack hW hdg hf
/-- a static method of the same class -/
theorem rn_S (F : CallFix p m c cc nLc s args uW own) (hM : Met l y (Cond.code y bytes maxL ret :: uW) rm (va_Pc As (pr_ D k H.size wc)) Qc mc ms free) (hG : GoodIn uW (wsS own index y (Cond.code y bytes maxL ret :: uW))) (hrc : rm.cells = mc) (hrs : rm.slots = ms)
    (hd : y.cls = own ∧ y.cls ≠ "java/lang/invoke/MethodHandle" ∧ y.cls ≠ "java/lang/invoke/VarHandle" ∧ (parseMethodDescriptor y.desc).map (fun d => d.parameters.length) = some n) (hR : rm.frames + 1 ≤ R.frames ∧ 8 + (maxL + 11) + rm.locals ≤ R.locals)
    (hP : va_P D cls ws H) (hK : va_K D cls (tys k) s) (hD : va_D A ws) (hN : NE s) (hV : EV A s s.heap) (hS : va_S A s.heap H locs) (hA : ∀ q, s.heap.size ≤ q → A q) {isC : List Nat} (hC : isC.map (fun i => ws[i]?) = wc.map some) (hn9 : va_nd isC = true)
    (hg : g.method = m) (hn : As.length = n) (hsize : g.locals.size = nLc) (hstack : g.stack = As.reverse ++ rest) (hW : 2 * g.monitorRoom + (rest.map fun v => v.category).sum ≤ 8) (hdg : decode cc g.pc = .ok (.invokestatic index, 3)) (hf : cells + mc ≤ R.cells ∧ slots + ms ≤ R.slots) :
    va_Run p l e R s m args below meth c H locs cells slots mc ms g rest (Qc As.toArray) free :=
  va_runS F hM (cwS n F.2.2.2.2 hG rfl hrc hrs hd hR) ⟨pr_blind, cut_ hP hK hD hN hV hS hA hC hn9⟩ hg hn hsize hstack hW hdg hf
/-- a private static method of a nest mate -/
theorem rn_SN (F : CallFix p m c cc nLc s args uW own) (hM : Met l y (Cond.code y bytes maxL ret :: uW) rm (va_Pc As (pr_ D k H.size wc)) Qc mc ms free) (hlk : Cond.methodLinkNest own index y host ∈ nL) (h1 : Cond.static y ∈ uW) (h3 : Cond.initialized y.cls ∈ uW) (h4 : Cond.code y bytes maxL ret ∈ uW) (hrc : rm.cells = mc) (hrs : rm.slots = ms)
    (hd : y.cls ≠ "java/lang/invoke/MethodHandle" ∧ y.cls ≠ "java/lang/invoke/VarHandle" ∧ (parseMethodDescriptor y.desc).map (fun d => d.parameters.length) = some n) (hR : rm.frames + 1 ≤ R.frames ∧ 8 + (maxL + 11) + rm.locals ≤ R.locals)
    (hP : va_P D cls ws H) (hK : va_K D cls (tys k) s) (hD : va_D A ws) (hN : NE s) (hV : EV A s s.heap) (hS : va_S A s.heap H locs) (hA : ∀ q, s.heap.size ≤ q → A q) {isC : List Nat} (hC : isC.map (fun i => ws[i]?) = wc.map some) (hn9 : va_nd isC = true)
    (hg : g.method = m) (hn : As.length = n) (hsize : g.locals.size = nLc) (hstack : g.stack = As.reverse ++ rest) (hW : 2 * g.monitorRoom + (rest.map fun v => v.category).sum ≤ 8) (hdg : decode cc g.pc = .ok (.invokestatic index, 3)) (hf : cells + mc ≤ R.cells ∧ slots + ms ≤ R.slots) :
    va_Run p l e R s m args below meth c H locs cells slots mc ms g rest (Qc As.toArray) free :=
  va_runSN F hM ⟨va_cnB n F.2.2.2.2 (gd_I uW_id h4) rfl hrc hrs (hN.1 _ hlk) (F.2.2.2.2 _ h3) hd hR, F.2.2.2.2 _ h1, trivial⟩ ⟨pr_blind, cut_ hP hK hD hN hV hS hA hC hn9⟩ hg hn hsize hstack hW hdg hf
end BASE
section BASE2
variable {p : Program} {l : Launch} {e : Env} {R : Room} {s : State} {m : MethodId} {args : Array Value} {below : List Frame} {meth : Method} {c : Code} {H H0 : Heap} {locs : List Loc} {cells slots : Nat} {Q : State → Prop}
variable {D : va_G} {k : k3} {A : Nat → Prop} {ws wc wr w1 : va_W} {a : Array Value} {pc j nl : Nat} {ls : Array Slot} {st0 rest : List Value} {cc : ByteArray}
/-- behind a call that answers an int and makes nothing -/
theorem fn_i {v : Int32} (hr : va_Run p l e R s m args below meth c H locs cells slots 0 0 (F0 m pc ls st0) rest (va_Qi (fun (r : Int32) (_ : Unit) => r = v) (fun _ t => po_ D k (va_A wc H.size) w1 t) (va_A wc H.size) a) (va_A wc H.size)) (hP : va_P D cls ws H) (hD : va_D A ws) (hS : va_S A H0 H locs) (hA : ∀ q, H0.size ≤ q → A q)
    (isC isR : List Nat) (hC : isC.map (fun i => ws[i]?) = wc.map some) (hR : isR.map (fun i => ws[i]?) = wr.map some) (hn : va_nd isR = true) (hdis : ∀ i ∈ isR, i ∉ isC)
    (kk : ∀ (H1 : Heap) (locs1 : List Loc), va_P D cls (wr ++ w1) H1 → va_D A (wr ++ w1) → va_S A H0 H1 locs1 → W p l e R s m args below meth c H1 locs1 cells slots Q (F0 m (pc + 3) ls (.int v :: rest))) : W p l e R s m args below meth c H locs cells slots Q (F0 m pc ls st0) := by
  have hFc := va_free (wc := wc) hD hS hA isC hC
  refine va_calli hr hS (fun q _ h => hFc q h) hFc (fun r u t H1 locs1 ht hvm hw hB hz1 hk1 hS1 => ?_)
  have hw : r = v := hw
  subst hw
  obtain ⟨hP1, hK1, hD1⟩ := hB
  rw [ht] at hP1
  obtain ⟨hP2, hD2⟩ := va_join hP hD isC isR hC hR hn hdis hk1 hFc hP1 hD1
  exact kk H1 locs1 hP2 hD2 hS1
theorem fn_l {v : Int64} (hr : va_Run p l e R s m args below meth c H locs cells slots 0 0 (F0 m pc ls st0) rest (va_Ql (fun (r : Int64) (_ : Unit) => r = v) (fun _ t => po_ D k (va_A wc H.size) w1 t) (va_A wc H.size) a) (va_A wc H.size)) (hP : va_P D cls ws H) (hD : va_D A ws) (hS : va_S A H0 H locs) (hA : ∀ q, H0.size ≤ q → A q)
    (isC isR : List Nat) (hC : isC.map (fun i => ws[i]?) = wc.map some) (hR : isR.map (fun i => ws[i]?) = wr.map some) (hn : va_nd isR = true) (hdis : ∀ i ∈ isR, i ∉ isC)
    (kk : ∀ (H1 : Heap) (locs1 : List Loc), va_P D cls (wr ++ w1) H1 → va_D A (wr ++ w1) → va_S A H0 H1 locs1 → W p l e R s m args below meth c H1 locs1 cells slots Q (F0 m (pc + 3) ls (.long v :: rest))) : W p l e R s m args below meth c H locs cells slots Q (F0 m pc ls st0) := by
  have hFc := va_free (wc := wc) hD hS hA isC hC
  refine va_calll hr hS (fun q _ h => hFc q h) hFc (fun r u t H1 locs1 ht hvm hw hB hz1 hk1 hS1 => ?_)
  have hw : r = v := hw
  subst hw
  obtain ⟨hP1, hK1, hD1⟩ := hB
  rw [ht] at hP1
  obtain ⟨hP2, hD2⟩ := va_join hP hD isC isR hC hR hn hdis hk1 hFc hP1 hD1
  exact kk H1 locs1 hP2 hD2 hS1
theorem fn_v (hr : va_Run p l e R s m args below meth c H locs cells slots 0 0 (F0 m pc ls st0) rest (va_Qv (fun (_ : Unit) => True) (fun _ t => po_ D k (va_A wc H.size) w1 t) (va_A wc H.size) a) (va_A wc H.size)) (hP : va_P D cls ws H) (hD : va_D A ws) (hS : va_S A H0 H locs) (hA : ∀ q, H0.size ≤ q → A q)
    (isC isR : List Nat) (hC : isC.map (fun i => ws[i]?) = wc.map some) (hR : isR.map (fun i => ws[i]?) = wr.map some) (hn : va_nd isR = true) (hdis : ∀ i ∈ isR, i ∉ isC)
    (kk : ∀ (H1 : Heap) (locs1 : List Loc), va_P D cls (wr ++ w1) H1 → va_D A (wr ++ w1) → va_S A H0 H1 locs1 → W p l e R s m args below meth c H1 locs1 cells slots Q (F0 m (pc + 3) ls rest)) : W p l e R s m args below meth c H locs cells slots Q (F0 m pc ls st0) := by
  have hFc := va_free (wc := wc) hD hS hA isC hC
  refine va_callv hr hS (fun q _ h => hFc q h) hFc (fun u t H1 locs1 ht hvm hw hB hz1 hk1 hS1 => ?_)
  obtain ⟨hP1, hK1, hD1⟩ := hB
  rw [ht] at hP1
  obtain ⟨hP2, hD2⟩ := va_join hP hD isC isR hC hR hn hdis hk1 hFc hP1 hD1
  exact kk H1 locs1 hP2 hD2 hS1
/-- a method's beginning -/
theorem en_ {y : MethodName} {bytes : ByteArray} {maxL : Nat} {ret : Option FieldType} {rm : Room} {av : List Value} {Qc : Array Value → State → Outcome → State → Prop} {mc ms sz : Nat} {free : Addr → Prop} (hy : plainName y.cls = true)
    (body : ∀ (p : Program) (e : Env) (s : State) (m : MethodId) (below : List Frame) (meth : Method) (c : Code), s.heap.size = sz → p.tables.exec = Jvm.exec → c.code = bytes → meth.sig.returnType = ret → c.maxLocals = maxL → s.vm.findClass y.cls = some m.cls → (∀ w ∈ uW, w.before av.toArray s = true) → meth.locks = false → meth.name = y.name →
      va_P D cls ws s.heap → va_K D cls (tys k) s → va_D (va_A ws s.heap.size) ws → NE s → EV (va_A ws s.heap.size) s s.heap → W p l e rm s m av.toArray below meth c s.heap [] 0 0 (MQ below Qc av.toArray s mc ms free) (entryFrame m av.toArray maxL)) :
    Met l y (Cond.code y bytes maxL ret :: uW) rm (va_Pc av (pr_ D k sz ws)) Qc mc ms free := by
  refine Met.ofW (cc := bytes) (maxL := maxL) (ret := ret) hy rfl ?_
  intro p e s m args below meth c s₁ B hml hv
  obtain ⟨rfl, hsz, hP, hK, hD0, hN, hV⟩ := hv
  have hts := atoms_spec (ws := Cond.code y bytes maxL ret :: uW) B.pre
  exact body p e s m below meth c hsz B.exec B.bytes B.returns hml (findClass_of_methodNamed B.named) (fun w h => hts w (List.mem_cons_of_mem _ h)) B.notSynchronized (name_of_methodNamed B.named B.method).1 hP hK hD0.self hN (by rw [hsz]; exact hV)
/-- ends -/
theorem rt_i {v r : Int32} {w' : va_W} (hx : p.tables.exec = Jvm.exec) (hb : c.code = cc) (hr : meth.sig.returnType = some .int) (hlocks : meth.locks = false) (hP : va_P D cls ws H) (hD : va_D A ws) (hK : va_K D cls (tys k) s) (hS : va_S A s.heap H locs) (is : List Nat) (h1 : is.filterMap (fun i => ws[i]?) = w') (h2 : va_nd is = true) (h3 : is.map (fun i => ws[i]?) = w'.map some) (er : v = r) (hdg : decode cc pc = .ok (.ireturn, 1)) :
    W p l e R s m args below meth c H locs cells slots (MQ below (va_Qi (fun (x : Int32) (_ : Unit) => x = r) (fun _ t => po_ D k A w' t) A) args s cells slots A) (F0 m pc ls [.int v]) :=
  W.iret (v := v) hx hb hr (fun t ht hW => ⟨⟨v, (), rfl, er, by rw [ht]; exact hP.sub is h1, va_K.moved hW.alike hK, hD.sub is h2 h3⟩, hS.F ht⟩) hS.2.2 hdg hlocks
theorem rt_z {v r : Int32} {w' : va_W} (hx : p.tables.exec = Jvm.exec) (hb : c.code = cc) (hr : meth.sig.returnType = some .boolean) (hlocks : meth.locks = false) (hP : va_P D cls ws H) (hD : va_D A ws) (hK : va_K D cls (tys k) s) (hS : va_S A s.heap H locs) (is : List Nat) (h1 : is.filterMap (fun i => ws[i]?) = w') (h2 : va_nd is = true) (h3 : is.map (fun i => ws[i]?) = w'.map some) (er : v = r) (hz : narrow .boolean (.int v) = .int v) (hdg : decode cc pc = .ok (.ireturn, 1)) :
    W p l e R s m args below meth c H locs cells slots (MQ below (va_Qi (fun (x : Int32) (_ : Unit) => x = r) (fun _ t => po_ D k A w' t) A) args s cells slots A) (F0 m pc ls [.int v]) :=
  W.zret (v := v) (ty := .boolean) hx hb hr hz (fun t ht hW => ⟨⟨v, (), rfl, er, by rw [ht]; exact hP.sub is h1, va_K.moved hW.alike hK, hD.sub is h2 h3⟩, hS.F ht⟩) hS.2.2 hdg hlocks
theorem rt_l {v r : Int64} {w' : va_W} (hx : p.tables.exec = Jvm.exec) (hb : c.code = cc) (hr : meth.sig.returnType = some .long) (hlocks : meth.locks = false) (hP : va_P D cls ws H) (hD : va_D A ws) (hK : va_K D cls (tys k) s) (hS : va_S A s.heap H locs) (is : List Nat) (h1 : is.filterMap (fun i => ws[i]?) = w') (h2 : va_nd is = true) (h3 : is.map (fun i => ws[i]?) = w'.map some) (er : v = r) (hdg : decode cc pc = .ok (.lreturn, 1)) :
    W p l e R s m args below meth c H locs cells slots (MQ below (va_Ql (fun (x : Int64) (_ : Unit) => x = r) (fun _ t => po_ D k A w' t) A) args s cells slots A) (F0 m pc ls [.long v]) :=
  W.lret (v := v) hx hb hr (fun t ht hW => ⟨⟨v, (), rfl, er, by rw [ht]; exact hP.sub is h1, va_K.moved hW.alike hK, hD.sub is h2 h3⟩, hS.F ht⟩) hS.2.2 hdg (hlocks := hlocks)
theorem rt_v {w' : va_W} (hx : p.tables.exec = Jvm.exec) (hb : c.code = cc) (hr : meth.sig.returnType = none) (hlocks : meth.locks = false) (hP : va_P D cls ws H) (hD : va_D A ws) (hK : va_K D cls (tys k) s) (hS : va_S A s.heap H locs) (is : List Nat) (h1 : is.filterMap (fun i => ws[i]?) = w') (h2 : va_nd is = true) (h3 : is.map (fun i => ws[i]?) = w'.map some) (hdg : decode cc pc = .ok (.return_, 1)) :
    W p l e R s m args below meth c H locs cells slots (MQ below (va_Qv (fun (_ : Unit) => True) (fun _ t => po_ D k A w' t) A) args s cells slots A) (F0 m pc ls []) :=
  W.vret hx hb hr (fun t ht hW => ⟨⟨(), rfl, trivial, by rw [ht]; exact hP.sub is h1, va_K.moved hW.alike hK, hD.sub is h2 h3⟩, hS.F ht⟩) hS.2.2 hdg (hlocks := hlocks)
/-- where roads meet -/
theorem jn_ {X : Type} (WS : X → va_W) (ST : X → List Value) (LV : X → List (Nat × Value)) (P : X → Prop) (j nl : Nat)
    (step : (∀ (x : X) (H1 : Heap) (locs1 : List Loc) (ls1 : Array Slot), P x → va_P D cls (WS x) H1 → va_D A (WS x) → va_S A H0 H1 locs1 → lv_has ls1 nl (LV x) → W p l e R s m args below meth c H1 locs1 cells slots Q (F0 m j ls1 (ST x))) → W p l e R s m args below meth c H locs cells slots Q (F0 m pc ls st0))
    (J : ∀ (x : X) (H1 : Heap) (locs1 : List Loc) (ls1 : Array Slot), P x → va_P D cls (WS x) H1 → va_D A (WS x) → va_S A H0 H1 locs1 → lv_has ls1 nl (LV x) → W p l e R s m args below meth c H1 locs1 cells slots Q (F0 m j ls1 (ST x))) :
    W p l e R s m args below meth c H locs cells slots Q (F0 m pc ls st0) := step J
/-- a loop that goes round n times more; i is the count of its rounds, or what is said of it -/
theorem lp_ {X : Type} (WS : X → va_W) (LV : Nat → Nat → X → List (Nat × Value)) (P : Nat → Nat → X → Prop) (j nl B : Nat)
    (hz : ∀ (i : Nat) (x : X) (H1 : Heap) (locs1 : List Loc) (ls1 : Array Slot), i = B → P 0 i x → va_P D cls (WS x) H1 → va_D A (WS x) → va_S A H0 H1 locs1 → lv_has ls1 nl (LV 0 i x) → W p l e R s m args below meth c H1 locs1 cells slots Q (F0 m j ls1 []))
    (hs : ∀ (n i : Nat) (x : X) (H1 : Heap) (locs1 : List Loc) (ls1 : Array Slot), i + (n + 1) = B → P (n + 1) i x → va_P D cls (WS x) H1 → va_D A (WS x) → va_S A H0 H1 locs1 → lv_has ls1 nl (LV (n + 1) i x) →
      (∀ (x' : X) (H2 : Heap) (locs2 : List Loc) (ls2 : Array Slot), P n (i + 1) x' → va_P D cls (WS x') H2 → va_D A (WS x') → va_S A H0 H2 locs2 → lv_has ls2 nl (LV n (i + 1) x') → W p l e R s m args below meth c H2 locs2 cells slots Q (F0 m j ls2 [])) →
      W p l e R s m args below meth c H1 locs1 cells slots Q (F0 m j ls1 [])) :
    ∀ (n i : Nat) (x : X) (H1 : Heap) (locs1 : List Loc) (ls1 : Array Slot), i + n = B → P n i x → va_P D cls (WS x) H1 → va_D A (WS x) → va_S A H0 H1 locs1 → lv_has ls1 nl (LV n i x) → W p l e R s m args below meth c H1 locs1 cells slots Q (F0 m j ls1 []) := by
  intro n
  induction n with
  | zero => intro i x H1 locs1 ls1 h; exact hz i x H1 locs1 ls1 h
  | succ n ih => intro i x H1 locs1 ls1 h hp a1 a2 a3 a4; exact hs n i x H1 locs1 ls1 h hp a1 a2 a3 a4 (fun x' H2 locs2 ls2 => ih (i + 1) x' H2 locs2 ls2 (by omega))
end BASE2
theorem wH_ {p : Program} {l : Launch} {e : Env} {R : Room} {s : State} {m : MethodId} {args : Array Value} {below : List Frame} {meth : Method} {c : Code} {H : Heap} {locs : List Loc} {cells slots : Nat} {Q : State → Prop} {g : JFrame} (h : H = s.heap) (k9 : W p l e R s m args below meth c H locs cells slots Q g) : W p l e R s m args below meth c s.heap locs cells slots Q g := h ▸ k9
theorem nz_ {c : Prop} [Decidable c] {a b : Int32} (ha : narrow .boolean (.int a) = .int a) (hb : narrow .boolean (.int b) = .int b) : narrow .boolean (.int (if c then a else b)) = .int (if c then a else b) := by
  split
  · exact ha
  · exact hb
