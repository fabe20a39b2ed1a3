section XFR
variable {p : Program} {l : Launch} {e : Env} {R : Room} {s : State} {m : MethodId} {args : Array Value} {below : List Frame} {meth : Method} {c : Code} {U : State} {Ls : List Loc} {c0 s0 : Nat}
variable {D : va_G} {k : k3} {A : Nat → Prop} {ws wc wr : va_W}
/-- a callee that throws comes back over the frame that called it -/
theorem x_free {y : MethodName} {ws9 : List Cond} {bytes : ByteArray} {maxL sz len : Nat} {ret : Option FieldType} {rm : Room} {av : List Value} {E : String} (hM : Thr l y ws9 rm av D k sz wc E)
    (X : Stand p l e R s m args below meth c U Ls c0 s0) {g : JFrame} {ig : Instr} {mk : MethodId} (hg : g.method = m) (hsize : g.locals.size = c.maxLocals) (hdg : decode c.code g.pc = .ok (ig, len)) (hn : U.methodNamed? y = some mk)
    (hrc : rm.cells = 1) (hrs : rm.slots = 6) (hframes : rm.frames + 1 ≤ R.frames) (hlocals : 2 * g.monitorRoom + (g.stack.map fun v => v.category).sum + (maxL + 11) + rm.locals ≤ R.locals)
    (h1 : (headSpec ws9 rm).pre.before av.toArray U = true) (h2 : (Cond.code y bytes maxL ret).before av.toArray U = true) (h3 : (Cond.initialized y.cls).before av.toArray U = true) (h4 : c0 + 1 ≤ R.cells) (h5 : s0 + 6 ≤ R.slots)
    (hp : va_Pc av (pr_ D k sz wc) av.toArray (U.calling g mk av.toArray)) :
    ∃ (q : Addr) (t U' : State) (L : List Loc), U'.heap = t.heap ∧ U'.vm = t.vm ∧ Stand p l e R s m args below meth c U' (Ls ++ L) (c0 + 1) (s0 + 6) ∧ (∀ z ∈ L, va_A wc sz z.base) ∧ po_ D k (va_A wc sz) wc t ∧ va_F (va_A wc sz) (U.calling g mk av.toArray) t ∧ (∃ ce : Cell, t.heap[q]? = some ce ∧ ce.vm = .none ∧ U.vm.findClass E = some ce.cls) ∧
      Steps p.tables e below (doInvoke e (U.setTop g) [] mk av.toArray).1 ((U'.setTop g).pushFrame (.throwing q)) := by
  obtain ⟨methY, cY, hmY, hcY, -, hlY, -, -, -, -⟩ := Cond.code_spec hn h2
  obtain ⟨kY, hkY, -⟩ := className_of_methodNamed hn
  have hinitY : kY.init = .initialized := Cond.initialized_spec (findClass_of_methodNamed hn) hkY h3
  have h : At U g.method c below := by rw [hg]; exact X.here
  have happ : (headSpec ws9 rm).appliesLoose y e.platform (U.calling g mk av.toArray) = true :=
    Spec.appliesLoose_calling (g := g) h hdg hn hkY hinitY (X.room_calling (g := g) (R' := rm) hsize hmY hcY hframes (by rw [hlY]; omega) (by rw [hrc]; exact h4) (by rw [hrs]; exact h5)) h1
  obtain ⟨mid, hmid⟩ := h.above
  have hfr : (U.setTop g).frames = (.java g :: mid) ++ below := by rw [State.frames_setTop' g h.top, hmid]; rfl
  obtain ⟨o, s₂, hsteps, hrun, hend, hq⟩ := Steps.callFree hM p X.admits X.cas X.clock (acts := []) hfr happ hp trivial
  obtain ⟨q, rfl, hpo, hF, hce, hW₂, L, hsb, hL⟩ := hq
  rw [State.frames_setTop' g h.top] at hend
  obtain ⟨e2, q2, q3, q4, q5, q6⟩ := id hsb
  have e3 : s₂ = ({ (U.calling g mk av.toArray).setFrames s₂.frames with heap := s₂.heap, slotsUsed := s₂.slotsUsed } : State).setVm s₂.vm := by
    have h0 : s₂ = ({ s₂ with vm := (U.calling g mk av.toArray).vm } : State).setVm s₂.vm := rfl
    have e2' : ({ s₂ with vm := (U.calling g mk av.toArray).vm } : State) = { (U.calling g mk av.toArray).setFrames s₂.frames with heap := s₂.heap, slotsUsed := s₂.slotsUsed } := e2
    rw [e2'] at h0
    exact h0
  have hf₂ : s₂.frames = .throwing q :: .java g :: U.frames.tail := hend
  have hW' : U.WarmedH s₂.vm := hW₂
  obtain ⟨g₀, hg0⟩ := Option.isSome_iff_exists.mp h.top
  obtain ⟨r, hr⟩ := State.topJava?_eq_some.mp hg0
  have hr' : (({ U with heap := s₂.heap, slotsUsed := s₂.slotsUsed } : State).setVm s₂.vm).frames = .java g₀ :: r := hr
  have hs₂ : s₂ = ((({ U with heap := s₂.heap, slotsUsed := s₂.slotsUsed } : State).setVm s₂.vm).setTop g).pushFrame (.throwing q) := by
    have e4 := e3
    rw [hf₂, State.calling_eq h.top, State.setFrames_setFrames, hr] at e4
    rw [State.setTop_of_frames _ hr', State.pushFrame, State.setFrames_setFrames, State.frames_setFrames _ (State.cur_lt_of_frames hr')]
    exact e4
  have hsame : U.sameButNew ({ U with heap := s₂.heap, slotsUsed := s₂.slotsUsed } : State) L 1 6 := by
    refine ⟨?_, q2, q3, q4, q5, q6⟩
    obtain ⟨t, ht, -⟩ := State.frames_cons hr
    show ({ U with heap := s₂.heap, slotsUsed := s₂.slotsUsed } : State) = { U.setFrames U.frames with heap := s₂.heap, slotsUsed := s₂.slotsUsed }
    rw [State.setFrames_self ht]
  subst hg
  refine ⟨q, s₂, (({ U with heap := s₂.heap, slotsUsed := s₂.slotsUsed } : State).setVm s₂.vm), L, rfl, rfl,
    ⟨X.admits, X.cas, X.clock, X.frames, X.room, X.hears, X.method, X.code, (X.here.setHeapUsed s₂.heap s₂.slotsUsed).setVm hW'.alike, X.tail, State.WarmedH.trans X.warmed hW', X.limits, X.bytes, X.same.trans (hsame.setVm s.vm)⟩, hL, hpo, hF, hce, ?_⟩
  rw [← hs₂]
  exact hsteps
end XFR
section XGO
variable {p : Program} {l : Launch} {e : Env} {R : Room} {s : State} {m : MethodId} {args : Array Value} {below : List Frame} {meth : Method} {c : Code} {H : Heap} {locs : List Loc} {cells slots : Nat} {Q : State → Prop}
variable {D : va_G} {k : k3} {A : Nat → Prop} {ws wc wr w' : va_W}
variable {y : MethodName} {bytes cc : ByteArray} {maxL nLc n index : Nat} {ret : Option FieldType} {rm : Room} {own C E : String} {b : Addr} {As rest : List Value} {g : JFrame}
/-- from the call on: the machine comes to a state where q is thrown over the frame, the world as it was -/
def xGo (p : Program) (l : Launch) (e : Env) (R : Room) (s : State) (m : MethodId) (args : Array Value) (below : List Frame) (meth : Method) (c : Code) (H : Heap) (locs : List Loc) (cells slots : Nat) (D : va_G) (A : Nat → Prop) (w1 : va_W) (E : String) (g : JFrame) (rest : List Value) : Prop :=
  ∀ T : State, T.heap = H → Stand p l e R s m args below meth c T locs cells slots → ∃ (q : Addr) (T' : State) (L : List Loc), Stand p l e R s m args below meth c T' (locs ++ L) (cells + 1) (slots + 6) ∧ va_P D cls w1 T'.heap ∧ va_D A w1 ∧ va_S A s.heap T'.heap (locs ++ L) ∧
    (∃ ce : Cell, T'.heap[q]? = some ce ∧ ce.vm = .none ∧ s.vm.findClass E = some ce.cls) ∧ Steps p.tables e below (T.setTop g) ((T'.setTop { g with stack := rest }).pushFrame (.throwing q))
theorem x_fin {T : State} {vm₁ : Vm} {q : Addr} {t U' : State} {L : List Loc} {g9 : JFrame} {mk : MethodId} {av : List Value} (hT : T.heap = H) (hW1 : s.WarmedH vm₁) (hP : va_P D cls ws H) (hD : va_D A ws) (hS : va_S A s.heap H locs) (hA : ∀ q, s.heap.size ≤ q → A q)
    {isC isR : List Nat} (hC : isC.map (fun i => ws[i]?) = wc.map some) (hR : isR.map (fun i => ws[i]?) = wr.map some) (hnR : va_nd isR = true) (hdis : ∀ i ∈ isR, i ∉ isC) (e1 : U'.heap = t.heap) (hL : ∀ z ∈ L, va_A wc H.size z.base) (hpo : po_ D k (va_A wc H.size) wc t)
    (hF : va_F (va_A wc H.size) ((T.setVm vm₁).calling g9 mk av.toArray) t) (hce : ∃ ce : Cell, t.heap[q]? = some ce ∧ ce.vm = .none ∧ (T.setVm vm₁).vm.findClass E = some ce.cls) :
    va_P D cls (wr ++ wc) U'.heap ∧ va_D A (wr ++ wc) ∧ va_S A s.heap U'.heap (locs ++ L) ∧ ∃ ce : Cell, U'.heap[q]? = some ce ∧ ce.vm = .none ∧ s.vm.findClass E = some ce.cls := by
  have hFc := va_free (wc := wc) hD hS hA isC hC
  obtain ⟨f1, f2⟩ := hF
  have f1 : H.size ≤ t.heap.size := by rw [← hT]; exact f1
  have f2 : ∀ q : Nat, q < H.size → ¬ va_A wc H.size q → t.heap[q]? = H[q]? := fun q h1 h2 => by
    have h3 := f2 q (by show q < T.heap.size; rw [hT]; exact h1) h2
    rw [h3]
    show T.heap[q]? = H[q]?
    rw [hT]
  obtain ⟨hP1, hK1, hD1⟩ := hpo
  obtain ⟨j1, j2⟩ := va_join hP hD isC isR hC hR hnR hdis f2 hFc hP1 hD1
  rw [e1]
  refine ⟨j1, j2, ⟨Nat.le_trans hS.1 f1, fun q h1 h2 => ?_, fun z hz => ?_⟩, ?_⟩
  · rw [f2 q (Nat.lt_of_lt_of_le h1 hS.1) (fun h => h2 (hFc q h))]
    exact hS.2.1 q h1 h2
  · rcases List.mem_append.mp hz with h | h
    · exact hS.2.2 z h
    · exact hFc _ (hL z h)
  · obtain ⟨ce, c1, c2, c3⟩ := hce
    have c3 : vm₁.findClass E = some ce.cls := c3
    rw [hW1.alike.findClass] at c3
    exact ⟨ce, c1, c2, c3⟩
theorem x_goS (F : CallFix p m c cc nLc s args uW own) (hM : Thr l y (Cond.code y bytes maxL ret :: uW) rm As D k H.size wc E) (h0 : Cond.methodLink own index y ∈ uW) (h1 : Cond.static y ∈ uW) (h3 : Cond.initialized y.cls ∈ uW) (h4 : Cond.code y bytes maxL ret ∈ uW) (hrc : rm.cells = 1) (hrs : rm.slots = 6)
    (hd : y.cls ≠ "java/lang/invoke/MethodHandle" ∧ y.cls ≠ "java/lang/invoke/VarHandle" ∧ (parseMethodDescriptor y.desc).map (fun d => d.parameters.length) = some n) (hR : rm.frames + 1 ≤ R.frames ∧ 8 + (maxL + 11) + rm.locals ≤ R.locals)
    (hP : va_P D cls ws H) (hK : va_K D cls (tys k) s) (hD : va_D A ws) (hN : NE s) (hV : EV A s s.heap) (hS : va_S A s.heap H locs) (hA : ∀ q, s.heap.size ≤ q → A q) {isC isR : List Nat} (hC : isC.map (fun i => ws[i]?) = wc.map some) (hn9 : va_nd isC = true) (hRr : isR.map (fun i => ws[i]?) = wr.map some) (hnR : va_nd isR = true) (hdis : ∀ i ∈ isR, i ∉ isC)
    (hg : g.method = m) (hn : As.length = n) (hsize : g.locals.size = nLc) (hstack : g.stack = As.reverse ++ rest) (hW : 2 * g.monitorRoom + (rest.map fun v => v.category).sum ≤ 8) (hdg : decode cc g.pc = .ok (.invokestatic index, 3)) (hf : cells + 1 ≤ R.cells ∧ slots + 6 ≤ R.slots) :
    xGo p l e R s m args below meth c H locs cells slots D A (wr ++ wc) E g rest := by
  intro T hT X
  obtain ⟨hx, hb, hml, ho, hts⟩ := F
  obtain ⟨mk, hnamed⟩ := Cond.code_named (hts _ h4)
  obtain ⟨methM, cM, hmethM, -, -, -, -, -, -, hsigM⟩ := Cond.code_spec hnamed (hts _ h4)
  have hstatic : methM.isStatic = true := Cond.static_spec hnamed hmethM (hts _ h1)
  obtain ⟨kP, hkP, -⟩ := className_of_methodNamed hnamed
  have hinitP : kP.init = .initialized := Cond.initialized_spec (findClass_of_methodNamed hnamed) hkP (hts _ h3)
  have hlen : As.length = methM.sig.parameters.length := by
    have h2 := hd.2.2
    rw [hsigM] at h2
    exact hn.trans (Option.some.inj h2).symm
  obtain ⟨vm₁, X₁, hstep₁⟩ := X.invokestatic hx ho (hts _ h0) hnamed hmethM hstatic hkP hinitP ⟨hd.1, hd.2.1⟩ (g := g) hg (argsL := As) (rest := rest) hlen hstack (by rw [hb]; exact hdg)
  have hgd := gd_I uW_id h4
  obtain ⟨q, t, U', L, e1, e2, X', hL, hpo, hF, hce, hst⟩ := x_free hM X₁ (g := { g with stack := rest }) (ig := .invokestatic index) (mk := mk) (len := 3) (bytes := bytes) (maxL := maxL) (ret := ret) hg (hsize.trans hml.symm) (by rw [hb]; exact hdg) (X₁.named hnamed) hrc hrs hR.1
    (by have h9 : 2 * ({ g with stack := rest } : JFrame).monitorRoom + (rest.map fun v => v.category).sum ≤ 8 := hW; have h8 := hR.2; show 2 * ({ g with stack := rest } : JFrame).monitorRoom + (rest.map fun v => v.category).sum + (maxL + 11) + rm.locals ≤ R.locals; omega)
    (atoms_intro fun w hw => word_at X₁.warmed (hgd w hw).2 (hts w (hgd w hw).1)) (word_at X₁.warmed (uW_good h4) (hts _ h4)) (word_at X₁.warmed (uW_good h3) (hts _ h3)) hf.1 hf.2 (pr_blind _ _ _ _ (cut_ hP hK hD hN hV hS hA hC hn9 (T.setVm vm₁) hT X₁.warmed))
  obtain ⟨r1, r2, r3, r4⟩ := x_fin hT X₁.warmed hP hD hS hA hC hRr hnR hdis e1 hL hpo hF hce
  exact ⟨q, U', L, X', r1, r2, r3, r4, hstep₁ _ fun acts => by rw [doInvoke_state]; exact hst⟩
theorem x_goV (F : CallFix p m c cc nLc s args uW own) (hM : Thr l y (Cond.code y bytes maxL ret :: uW) rm (.ref b :: As) D k H.size wc E) (h0 : Cond.methodLink own index y ∈ uW) (h1 : Cond.instanceMethod y ∈ uW) (h2 : Cond.selects C y y ∈ uW) (h3 : Cond.initialized y.cls ∈ uW) (h4 : Cond.code y bytes maxL ret ∈ uW) (hrc : rm.cells = 1) (hrs : rm.slots = 6)
    (hd : y.cls ≠ "java/lang/invoke/MethodHandle" ∧ y.cls ≠ "java/lang/invoke/VarHandle" ∧ (parseMethodDescriptor y.desc).map (fun d => d.parameters.length) = some n) (hR : rm.frames + 1 ≤ R.frames ∧ 8 + (maxL + 11) + rm.locals ≤ R.locals)
    (hP : va_P D cls ws H) (hK : va_K D cls (tys k) s) (hD : va_D A ws) (hN : NE s) (hV : EV A s s.heap) (hS : va_S A s.heap H locs) (hA : ∀ q, s.heap.size ≤ q → A q) {isC isR : List Nat} (hC : isC.map (fun i => ws[i]?) = wc.map some) (hn9 : va_nd isC = true) (hRr : isR.map (fun i => ws[i]?) = wr.map some) (hnR : va_nd isR = true) (hdis : ∀ i ∈ isR, i ∉ isC)
    {ci : Nat} {fs : List Value} (hw0 : wc[0]? = some (b, .inr (ci, fs))) {q9 : vw_C} (hc : cls[ci]? = some q9) (hq9 : q9.1 = C)
    (hg : g.method = m) (hn : As.length = n) (hsize : g.locals.size = nLc) (hstack : g.stack = As.reverse ++ .ref b :: rest) (hW : 2 * g.monitorRoom + (rest.map fun v => v.category).sum ≤ 8) (hdg : decode cc g.pc = .ok (.invokevirtual index, 3)) (hf : cells + 1 ≤ R.cells ∧ slots + 6 ≤ R.slots) :
    xGo p l e R s m args below meth c H locs cells slots D A (wr ++ wc) E g rest := by
  intro T hT X
  obtain ⟨hx, hb, hml, ho, hts⟩ := F
  obtain ⟨cellB, hcell, hobj, hcls⟩ := rec_ (C := C) hP hK hC hw0 hc hq9
  obtain ⟨mk, methM, hnamed, hmethM, hstM, habM⟩ := Cond.instanceMethod_spec (hts _ h1)
  obtain ⟨methM', cM, hmethM', -, -, -, -, -, -, hsigM⟩ := Cond.code_spec hnamed (hts _ h4)
  cases hmethM.symm.trans hmethM'
  obtain ⟨c2, r2, m2, z1, z2, z3, z4, kP, hkP, hkPi⟩ := Cond.selects_spec (hts _ h2)
  cases hcls.symm.trans z1
  cases (State.methodFound?_of_named hnamed ⟨hd.1, hd.2.1⟩).symm.trans z2
  cases hnamed.symm.trans z3
  have hselP : selectMethod e.platform s.vm cellB.cls mk = .method mk := by rw [Launch.admits_selectMethod X.admits]; exact z4
  have hlen : As.length = methM.sig.parameters.length := by
    have h2 := hd.2.2
    rw [hsigM] at h2
    exact hn.trans (Option.some.inj h2).symm
  obtain ⟨vm₁, X₁, hstep₁⟩ := X.invokevirtual hx ho (hts _ h0) hnamed hmethM hstM hkP hkPi ⟨hd.1, hd.2.1⟩ (a := b) (cell := cellB) (by rw [hT]; exact hcell)
    (fun z h => by rw [h] at hobj; cases hobj) hselP hmethM habM hkP hkPi (g := g) hg (argsL := As) (rest := rest) hlen hstack (by rw [hb]; exact hdg)
  have hgd := gd_I uW_id h4
  obtain ⟨q, t, U', L, e1, e2, X', hL, hpo, hF, hce, hst⟩ := x_free hM X₁ (g := { g with stack := rest }) (ig := .invokevirtual index) (mk := mk) (len := 3) (bytes := bytes) (maxL := maxL) (ret := ret) hg (hsize.trans hml.symm) (by rw [hb]; exact hdg) (X₁.named hnamed) hrc hrs hR.1
    (by have h9 : 2 * ({ g with stack := rest } : JFrame).monitorRoom + (rest.map fun v => v.category).sum ≤ 8 := hW; have h8 := hR.2; show 2 * ({ g with stack := rest } : JFrame).monitorRoom + (rest.map fun v => v.category).sum + (maxL + 11) + rm.locals ≤ R.locals; omega)
    (atoms_intro fun w hw => word_at X₁.warmed (hgd w hw).2 (hts w (hgd w hw).1)) (word_at X₁.warmed (uW_good h4) (hts _ h4)) (word_at X₁.warmed (uW_good h3) (hts _ h3)) hf.1 hf.2 (pr_blind _ _ _ _ (cut_ hP hK hD hN hV hS hA hC hn9 (T.setVm vm₁) hT X₁.warmed))
  obtain ⟨r1, r2, r3, r4⟩ := x_fin hT X₁.warmed hP hD hS hA hC hRr hnR hdis e1 hL hpo hF hce
  exact ⟨q, U', L, X', r1, r2, r3, r4, hstep₁ _ fun acts => by rw [doInvoke_state]; exact hst⟩
/-- not caught here -/
theorem x_prop {pc : Nat} {ls : Array Slot} {st0 : List Value} (hgo : xGo p l e R s m args below meth c H locs 0 0 D A ws E (F0 m pc ls st0) rest) (hK : va_K D cls (tys k) s) (hex : c.exceptionTable.isEmpty = true) (hlocks : meth.locks = false) (js : List Nat) (h1 : js.filterMap (fun i => ws[i]?) = w') (h2 : va_nd js = true) (h3 : js.map (fun i => ws[i]?) = w'.map some) :
    W p l e R s m args below meth c H locs 0 0 (TQ below D k A w' E s) (F0 m pc ls st0) := by
  intro T hT X
  obtain ⟨q, T', L, X', hP', hD', hS', hce, st⟩ := hgo T hT X
  obtain ⟨st1, hrun, hend, hW, hsm⟩ := X'.leaveThrown q (g := { F0 m pc ls st0 with stack := rest }) rfl rfl rfl (x_none hex _) hlocks
  exact ⟨_, st.trans st1, hrun, q, hend, ⟨hP'.sub js h1, va_K.moved hW.alike hK, hD'.sub js h2 h3⟩, ⟨hS'.1, hS'.2.1⟩, hce, hW, locs ++ L, hsm, hS'.2.2⟩
end XGO
