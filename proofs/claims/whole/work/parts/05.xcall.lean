section XFR
variable {p : Program} {l : Launch} {e : Env} {R : Room} {s : State} {m : MethodId} {args : Array Value} {below : List Frame} {meth : Method} {c : Code} {U : State} {Ls : List Loc} {c0 s0 : Nat}
variable {D : va_G} {k : k3} {A : Nat → Prop} {ws wc wr : va_W}
/-- a callee that throws comes back over the frame that called it -/
theorem x_free {y : MethodName} {ws9 : List Cond} {bytes : ByteArray} {maxL sz len : Nat} {ret : Option FieldType} {rm : Room} {av : List Value} {E : String} (hM : Thr l y ws9 rm av D k sz wc E)
    (X : Stand p l e R s m args below meth c U Ls c0 s0) {g : JFrame} {ig : Instr} {mk : MethodId} (hg : g.method = m) (hsize : g.locals.size = c.maxLocals) (hdg : decode c.code g.pc = .ok (ig, len)) (hn : U.methodNamed? y = some mk)
    (hrc : rm.cells = 1) (hrs : rm.slots = 6) (hframes : rm.frames + 1 ≤ R.frames) (hlocals : 2 * g.monitorRoom + (g.stack.map fun v => v.category).sum + (maxL + 11) + rm.locals ≤ R.locals)
    (h1 : (headSpec ws9 rm).pre.before av.toArray U = true) (h2 : (Cond.code y bytes maxL ret).before av.toArray U = true) (h3 : (Cond.initialized y.cls).before av.toArray U = true) (h4 : c0 + 1 ≤ R.cells) (h5 : s0 + 6 ≤ R.slots)
    (hp : va_Pc av (pr_ D k sz wc) av.toArray (U.calling g mk av.toArray)) :
    ∃ (q : Addr) (t U' : State) (L : List Loc), U'.heap = t.heap ∧ U'.vm = t.vm ∧ Stand p l e R s m args below meth c U' (Ls ++ L) (c0 + 1) (s0 + 6) ∧ (∀ z ∈ L, va_A wc sz z.base) ∧ po_ D k (va_A wc sz) wc t ∧ va_F (va_A wc sz) (U.calling g mk av.toArray) t ∧ (∃ ce : Cell, t.heap[q]? = some ce ∧ ce.vm = .none ∧ U.vm.findClass E = some ce.cls) ∧
      Steps p.tables e below (doInvoke e (U.setTop g) [] mk av.toArray).1 ((U'.setTop g).pushFrame (.throwing q)) := by
  obtain ⟨methY, cY, hmY, hcY, -, hlY, -, -, -, -⟩ := Cond.code_spec hn h2
  obtain ⟨kY, hkY, -⟩ := className_of_methodNamed hn
  have hinitY : kY.init = .initialized := Cond.initialized_spec (findClass_of_methodNamed hn) hkY h3
  have h : At U g.method c below := by rw [hg]; exact X.here
  have happ : (headSpec ws9 rm).appliesLoose y e.platform (U.calling g mk av.toArray) = true :=
    Spec.appliesLoose_calling (g := g) h hdg hn hkY hinitY (X.room_calling (g := g) (R' := rm) hsize hmY hcY hframes (by rw [hlY]; omega) (by rw [hrc]; exact h4) (by rw [hrs]; exact h5)) h1
  obtain ⟨mid, hmid⟩ := h.above
  have hfr : (U.setTop g).frames = (.java g :: mid) ++ below := by rw [State.frames_setTop' g h.top, hmid]; rfl
  obtain ⟨o, s₂, hsteps, hrun, hend, hq⟩ := Steps.callFree hM p X.admits X.cas X.clock (acts := []) hfr happ hp trivial
  obtain ⟨q, rfl, hpo, hF, hce, hW₂, L, hsb, hL⟩ := hq
  rw [State.frames_setTop' g h.top] at hend
  obtain ⟨e2, q2, q3, q4, q5, q6⟩ := id hsb
  have e3 : s₂ = ({ (U.calling g mk av.toArray).setFrames s₂.frames with heap := s₂.heap, slotsUsed := s₂.slotsUsed } : State).setVm s₂.vm := by
    have h0 : s₂ = ({ s₂ with vm := (U.calling g mk av.toArray).vm } : State).setVm s₂.vm := rfl
    have e2' : ({ s₂ with vm := (U.calling g mk av.toArray).vm } : State) = { (U.calling g mk av.toArray).setFrames s₂.frames with heap := s₂.heap, slotsUsed := s₂.slotsUsed } := e2
    rw [e2'] at h0
    exact h0
  have hf₂ : s₂.frames = .throwing q :: .java g :: U.frames.tail := hend
  have hW' : U.WarmedH s₂.vm := hW₂
  obtain ⟨g₀, hg0⟩ := Option.isSome_iff_exists.mp h.top
  obtain ⟨r, hr⟩ := State.topJava?_eq_some.mp hg0
  have hr' : (({ U with heap := s₂.heap, slotsUsed := s₂.slotsUsed } : State).setVm s₂.vm).frames = .java g₀ :: r := hr
  have hs₂ : s₂ = ((({ U with heap := s₂.heap, slotsUsed := s₂.slotsUsed } : State).setVm s₂.vm).setTop g).pushFrame (.throwing q) := by
    have e4 := e3
    rw [hf₂, State.calling_eq h.top, State.setFrames_setFrames, hr] at e4
    rw [State.setTop_of_frames _ hr', State.pushFrame, State.setFrames_setFrames, State.frames_setFrames _ (State.cur_lt_of_frames hr')]
    exact e4
  have hsame : U.sameButNew ({ U with heap := s₂.heap, slotsUsed := s₂.slotsUsed } : State) L 1 6 := by
    refine ⟨?_, q2, q3, q4, q5, q6⟩
    obtain ⟨t, ht, -⟩ := State.frames_cons hr
    show ({ U with heap := s₂.heap, slotsUsed := s₂.slotsUsed } : State) = { U.setFrames U.frames with heap := s₂.heap, slotsUsed := s₂.slotsUsed }
    rw [State.setFrames_self ht]
  subst hg
  refine ⟨q, s₂, (({ U with heap := s₂.heap, slotsUsed := s₂.slotsUsed } : State).setVm s₂.vm), L, rfl, rfl,
    ⟨X.admits, X.cas, X.clock, X.frames, X.room, X.hears, X.method, X.code, (X.here.setHeapUsed s₂.heap s₂.slotsUsed).setVm hW'.alike, X.tail, State.WarmedH.trans X.warmed hW', X.limits, X.bytes, X.same.trans (hsame.setVm s.vm)⟩, hL, hpo, hF, hce, ?_⟩
  rw [← hs₂]
  exact hsteps
end XFR
