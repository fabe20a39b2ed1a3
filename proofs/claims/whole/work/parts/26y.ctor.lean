-- ===== constructors: what is made comes with its addresses =====
section CTR
variable {p : Program} {l : Launch} {e : Env} {R : Room} {s : State} {m : MethodId} {args : Array Value} {below : List Frame} {meth : Method} {c : Code} {H H0 : Heap} {locs : List Loc} {cells slots : Nat} {Q : State → Prop}
variable {D : va_G} {k : k3} {A : Nat → Prop} {ws wc wr : va_W} {a : Array Value} {pc mc ms : Nat} {ls : Array Slot} {st0 rest : List Value} {cc : ByteArray}
theorem fn_c {S : Type} {w1 : S → va_W} (hr : va_Run p l e R s m args below meth c H locs cells slots mc ms (F0 m pc ls st0) rest (va_Qv (fun (_ : S) => True) (fun u t => po_ D k (va_A wc H.size) (w1 u) t) (va_A wc H.size) a) (va_A wc H.size)) (hP : va_P D cls ws H) (hD : va_D A ws) (hS : va_S A H0 H locs) (hA : ∀ q, H0.size ≤ q → A q)
    (isC isR : List Nat) (hC : isC.map (fun i => ws[i]?) = wc.map some) (hR : isR.map (fun i => ws[i]?) = wr.map some) (hn : va_nd isR = true) (hdis : ∀ i ∈ isR, i ∉ isC)
    (kk : ∀ (u : S) (H1 : Heap) (locs1 : List Loc), va_P D cls (wr ++ w1 u) H1 → va_D A (wr ++ w1 u) → va_S A H0 H1 locs1 → W p l e R s m args below meth c H1 locs1 (cells + mc) (slots + ms) Q (F0 m (pc + 3) ls rest)) : W p l e R s m args below meth c H locs cells slots Q (F0 m pc ls st0) := by
  have hFc := va_free (wc := wc) hD hS hA isC hC
  refine va_callv hr hS (fun q _ h => hFc q h) hFc (fun u t H1 locs1 ht hvm hw hB hz1 hk1 hS1 => ?_)
  obtain ⟨hP1, hK1, hD1⟩ := hB
  rw [ht] at hP1
  obtain ⟨hP2, hD2⟩ := va_join hP hD isC isR hC hR hn hdis hk1 hFc hP1 hD1
  exact kk u H1 locs1 hP2 hD2 hS1
theorem rt_c {S : Type} {w1 : S → va_W} (u : S) (hx : p.tables.exec = Jvm.exec) (hb : c.code = cc) (hr : meth.sig.returnType = none) (hlocks : meth.locks = false) (hP : va_P D cls ws H) (hD : va_D A ws) (hK : va_K D cls (tys k) s) (hS : va_S A s.heap H locs) (is : List Nat) (h1 : is.filterMap (fun i => ws[i]?) = w1 u) (h2 : va_nd is = true) (h3 : is.map (fun i => ws[i]?) = (w1 u).map some) (hdg : decode cc pc = .ok (.return_, 1)) :
    W p l e R s m args below meth c H locs cells slots (MQ below (va_Qv (fun (_ : S) => True) (fun u t => po_ D k A (w1 u) t) A) args s cells slots A) (F0 m pc ls []) :=
  W.vret hx hb hr (fun t ht hW => ⟨⟨u, rfl, trivial, by rw [ht]; exact hP.sub is h1, va_K.moved hW.alike hK, hD.sub is h2 h3⟩, hS.F ht⟩) hS.2.2 hdg (hlocks := hlocks)
/-- a new array of a kind that is known -/
theorem na_ (hx : p.tables.exec = Jvm.exec) (hb : c.code = cc) {atype : ArrayType} (harr : (Cond.arrayClass (newarray.typeOf atype)).before args s = true) {ty : FieldType} (hty : newarray.typeOf atype = ty) (hra : ∀ (U : State) (c : ClassId), va_RA U c ty → U.vm.findClass ("[" ++ ty.toString) = some c) (hK : va_K D cls (tys k) s) (hP : va_P D cls ws H) (hD : va_D A ws) (hS : va_S A H0 H locs) (hA : ∀ q, H0.size ≤ q → A q)
    (t0 : Nat) {cA : ClassId} (ht : (tys k)[t0]? = some (cA, ty)) {n : Int32} {N : Nat} {a0 : vp_A} (ha : ∀ cA : ClassId, vp_cell cA a0 = arrV cA N (fun _ => defaultValue ty)) (hn : ¬ n < 0) (hN : n.toNatClampNeg = N) (hbytes : N * componentBytes ty ≤ 536870912) (hcells : cells + 1 ≤ R.cells) (hslots : slots + N ≤ R.slots) (hdg : decode cc pc = .ok (.newarray atype, 2))
    (kk : ∀ (q : Nat) (H1 : Heap), va_P D cls (ws ++ [(q, .inl (cA, a0))]) H1 → va_D A (ws ++ [(q, .inl (cA, a0))]) → va_S A H0 H1 locs → W p l e R s m args below meth c H1 locs (cells + 1) (slots + N) Q (F0 m (pc + 2) ls (.ref q :: rest))) : W p l e R s m args below meth c H locs cells slots Q (F0 m pc ls (.int n :: rest)) := by
  refine va_newa hx hb harr hty hK hP hD hS hA ha hn hN hbytes hcells hslots hdg (fun q cB H1 hK1 hP1 hD1 hS1 => ?_)
  have h1 := hra s cA (hK.2 t0 _ ht).2
  have h2 := hra s cB (hK1.2 3 (cB, ty) rfl).2
  cases Option.some.inj (h1.symm.trans h2)
  exact kk q H1 hP1 hD1 hS1
variable {y : MethodName} {bytes : ByteArray} {maxL nLc n index : Nat} {rm : Room} {Qc : Array Value → State → Outcome → State → Prop} {free : Addr → Prop} {own host : String} {b : Addr} {As : List Value} {g : JFrame}
theorem rn_I (F : CallFix p m c cc nLc s args uW own) (hM : Met l y (Cond.code y bytes maxL none :: uW) rm (va_Pc (.ref b :: As) (pr_ D k H.size wc)) Qc mc ms free) (h0 : Cond.methodLink own index y ∈ uW) (h1 : Cond.instanceMethod y ∈ uW) (h3 : Cond.initialized y.cls ∈ uW) (h4 : Cond.code y bytes maxL none ∈ uW) (hy : y.name = "<init>") (hrc : rm.cells = mc) (hrs : rm.slots = ms)
    (hd : y.cls ≠ "java/lang/invoke/MethodHandle" ∧ y.cls ≠ "java/lang/invoke/VarHandle" ∧ (parseMethodDescriptor y.desc).map (fun d => d.parameters.length) = some n) (hR : rm.frames + 1 ≤ R.frames ∧ 8 + (maxL + 11) + rm.locals ≤ R.locals)
    (hP : va_P D cls ws H) (hK : va_K D cls (tys k) s) (hD : va_D A ws) (hN : NE s) (hV : EV A s s.heap) (hS : va_S A s.heap H locs) (hA : ∀ q, s.heap.size ≤ q → A q) {isC : List Nat} (hC : isC.map (fun i => ws[i]?) = wc.map some) (hn9 : va_nd isC = true)
    (hg : g.method = m) (hn : As.length = n) (hsize : g.locals.size = nLc) (hstack : g.stack = As.reverse ++ .ref b :: rest) (hW : 2 * g.monitorRoom + (rest.map fun v => v.category).sum ≤ 8) (hdg : decode cc g.pc = .ok (.invokespecial index, 3)) (hf : cells + mc ≤ R.cells ∧ slots + ms ≤ R.slots) :
    va_Run p l e R s m args below meth c H locs cells slots mc ms g rest (Qc (Value.ref b :: As).toArray) free :=
  va_runI F hM (cwI n F.2.2.2.2 (gd_I uW_id h4) rfl hrc hrs (F.2.2.2.2 _ h3) (F.2.2.2.2 _ h0) (F.2.2.2.2 _ h1) hy hd hR) ⟨pr_blind, cut_ hP hK hD hN hV hS hA hC hn9⟩ hg hn hsize hstack hW hdg hf
theorem rn_IN (F : CallFix p m c cc nLc s args uW own) (hM : Met l y (Cond.code y bytes maxL none :: uW) rm (va_Pc (.ref b :: As) (pr_ D k H.size wc)) Qc mc ms free) (hlk : Cond.methodLinkNest own index y host ∈ nL) (h1 : Cond.instanceMethod y ∈ uW) (h3 : Cond.initialized y.cls ∈ uW) (h4 : Cond.code y bytes maxL none ∈ uW) (hy : y.name = "<init>") (hrc : rm.cells = mc) (hrs : rm.slots = ms)
    (hd : y.cls ≠ "java/lang/invoke/MethodHandle" ∧ y.cls ≠ "java/lang/invoke/VarHandle" ∧ (parseMethodDescriptor y.desc).map (fun d => d.parameters.length) = some n) (hR : rm.frames + 1 ≤ R.frames ∧ 8 + (maxL + 11) + rm.locals ≤ R.locals)
    (hP : va_P D cls ws H) (hK : va_K D cls (tys k) s) (hD : va_D A ws) (hN : NE s) (hV : EV A s s.heap) (hS : va_S A s.heap H locs) (hA : ∀ q, s.heap.size ≤ q → A q) {isC : List Nat} (hC : isC.map (fun i => ws[i]?) = wc.map some) (hn9 : va_nd isC = true)
    (hg : g.method = m) (hn : As.length = n) (hsize : g.locals.size = nLc) (hstack : g.stack = As.reverse ++ .ref b :: rest) (hW : 2 * g.monitorRoom + (rest.map fun v => v.category).sum ≤ 8) (hdg : decode cc g.pc = .ok (.invokespecial index, 3)) (hf : cells + mc ≤ R.cells ∧ slots + ms ≤ R.slots) :
    va_Run p l e R s m args below meth c H locs cells slots mc ms g rest (Qc (Value.ref b :: As).toArray) free :=
  va_runIN F hM ⟨va_cnB n F.2.2.2.2 (gd_I uW_id h4) rfl hrc hrs (hN.1 _ hlk) (F.2.2.2.2 _ h3) hd hR, hy, F.2.2.2.2 _ h1⟩ ⟨pr_blind, cut_ hP hK hD hN hV hS hA hC hn9⟩ hg hn hsize hstack hW hdg hf
end CTR
