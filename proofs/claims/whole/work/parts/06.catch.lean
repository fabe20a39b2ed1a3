-- ===== a row of a method's own table takes what a callee threw =====
section FH
variable {Q : Handler → Pre} {Ep : CtlPost} {e : Env} {d : Bool} {acts : List Action} {S : State} {f : JFrame} {a : Addr}
theorem fh_hit {x : ExceptionTableEntry} {t : List ExceptionTableEntry} {ct : ClassId} {cell : Cell} (hx : covers x f.pc = true) (h0 : x.catchType ≠ 0) (hl : S.vm.ClassLinks e.platform f.method.cls x.catchType ct) (hcell : S.heap[a]? = some cell) (hobj : ∀ k, cell.vm ≠ .statics k)
    (hk : ∃ k, S.vm.classes[cell.cls]? = some k) (hc : ∃ k, S.vm.classes[ct]? = some k) (hr : S.vm.assignable cell.cls ct = true) :
    wp (findHandler.go f a (x :: t)) Q Ep e d acts S ↔ Q (.found x.handlerPc) d acts (S.setVm (S.vm.noted f.method.cls x.catchType (.cls ct))) := by
  have hal : S.vm.Alike (S.vm.noted f.method.cls x.catchType (.cls ct)) := (Vm.Alike.refl S.vm).noted _ _ _
  obtain ⟨b1, b2⟩ := (resolveClass_links e.toSetting hl).op (op := VmOp.resolveClass f.method.cls x.catchType) rfl
  obtain ⟨k1, hk1⟩ := hk
  obtain ⟨k2, hk2⟩ := hc
  obtain ⟨k3, hk3, -⟩ := hal.2.2 _ _ hk1
  obtain ⟨k4, hk4, -⟩ := hal.2.2 _ _ hk2
  have hr' : (S.vm.noted f.method.cls x.catchType (.cls ct)).assignable cell.cls ct = true := hal.assignable .. ▸ hr
  unfold covers at hx
  simp [findHandler.go, hx, h0, b1, b2, hcell, hobj, hk3, hk4, hr', VmOp.dirties, VmOp.acts]
theorem fh_pass {x : ExceptionTableEntry} {t : List ExceptionTableEntry} {ct : ClassId} {cell : Cell} (hx : covers x f.pc = true) (h0 : x.catchType ≠ 0) (hl : S.vm.ClassLinks e.platform f.method.cls x.catchType ct) (hcell : S.heap[a]? = some cell) (hobj : ∀ k, cell.vm ≠ .statics k)
    (hk : ∃ k, S.vm.classes[cell.cls]? = some k) (hc : ∃ k, S.vm.classes[ct]? = some k) (hr : S.vm.assignable cell.cls ct = false) :
    wp (findHandler.go f a (x :: t)) Q Ep e d acts S ↔ wp (findHandler.go f a t) Q Ep e d acts (S.setVm (S.vm.noted f.method.cls x.catchType (.cls ct))) := by
  have hal : S.vm.Alike (S.vm.noted f.method.cls x.catchType (.cls ct)) := (Vm.Alike.refl S.vm).noted _ _ _
  obtain ⟨b1, b2⟩ := (resolveClass_links e.toSetting hl).op (op := VmOp.resolveClass f.method.cls x.catchType) rfl
  obtain ⟨k1, hk1⟩ := hk
  obtain ⟨k2, hk2⟩ := hc
  obtain ⟨k3, hk3, -⟩ := hal.2.2 _ _ hk1
  obtain ⟨k4, hk4, -⟩ := hal.2.2 _ _ hk2
  have hr' : (S.vm.noted f.method.cls x.catchType (.cls ct)).assignable cell.cls ct = false := hal.assignable .. ▸ hr
  unfold covers at hx
  simp [findHandler.go, hx, h0, b1, b2, hcell, hobj, hk3, hk4, hr', VmOp.dirties, VmOp.acts]
end FH
/-- a row that a thrown object of the class ct passes; one that takes it -/
def rowNo (pl : Platform) (s : State) (d : ClassId) (pc : Nat) (ct : ClassId) (z : ExceptionTableEntry) : Prop := covers z pc = true ∧ z.catchType ≠ 0 ∧ ∃ c, s.vm.ClassLinks pl d z.catchType c ∧ s.vm.assignable ct c = false
def rowYes (pl : Platform) (s : State) (d : ClassId) (pc : Nat) (ct : ClassId) (z : ExceptionTableEntry) : Prop := covers z pc = true ∧ z.catchType ≠ 0 ∧ ∃ c, s.vm.ClassLinks pl d z.catchType c ∧ s.vm.assignable ct c = true
theorem fh_all {e : Env} {s : State} {f : JFrame} {a : Addr} {cell : Cell} (hobj : ∀ k, cell.vm ≠ .statics k) (hk0 : ∃ k, s.vm.classes[cell.cls]? = some k) (x : ExceptionTableEntry) (suf : List ExceptionTableEntry) (hx : rowYes e.platform s f.method.cls f.pc cell.cls x) :
    ∀ (pre : List ExceptionTableEntry) (S : State), s.WarmedH S.vm → S.heap[a]? = some cell → (∀ z ∈ pre, rowNo e.platform s f.method.cls f.pc cell.cls z) →
      ∃ vm', s.WarmedH vm' ∧ ∀ (Q : Handler → Pre) (Ep : CtlPost) (d : Bool) (acts : List Action), wp (findHandler.go f a (pre ++ x :: suf)) Q Ep e d acts S ↔ Q (.found x.handlerPc) d acts (S.setVm vm')
  | [], S, hW, hcell, _ => by
    obtain ⟨k0, hk0⟩ := hk0
    obtain ⟨k1, hk1, -⟩ := hW.alike.2.2 _ _ hk0
    obtain ⟨hcov, h0, ct, hl, hfit⟩ := hx
    obtain ⟨dk, _, _, kt, hd, _, _, _, _, hkt, _, hopen⟩ := hl.here
    obtain ⟨k2, hk2, -⟩ := hW.alike.2.2 _ _ hkt
    exact ⟨_, hW.noted hd hopen (State.rightAt_cls hl), fun Q Ep d acts => fh_hit hcov h0 (hW.classLinks hl) hcell hobj ⟨k1, hk1⟩ ⟨k2, hk2⟩ (by rw [hW.alike.assignable]; exact hfit)⟩
  | z :: pre, S, hW, hcell, hpass => by
    obtain ⟨hcov, h0, ct, hl, hno⟩ := hpass z List.mem_cons_self
    obtain ⟨k0, hk9⟩ := id hk0
    obtain ⟨k1, hk1, -⟩ := hW.alike.2.2 _ _ hk9
    obtain ⟨dk, _, _, kt, hd, _, _, _, _, hkt, _, hopen⟩ := hl.here
    obtain ⟨k2, hk2, -⟩ := hW.alike.2.2 _ _ hkt
    obtain ⟨vm', hW', hq⟩ := fh_all hobj hk0 x suf hx pre (S.setVm (S.vm.noted f.method.cls z.catchType (.cls ct))) (hW.noted hd hopen (State.rightAt_cls hl)) hcell (fun y hy => hpass y (List.mem_cons_of_mem _ hy))
    exact ⟨vm', hW', fun Q Ep d acts => (fh_pass hcov h0 (hW.classLinks hl) hcell hobj ⟨k1, hk1⟩ ⟨k2, hk2⟩ (by rw [hW.alike.assignable]; exact hno)).trans (hq Q Ep d acts)⟩
section XCA
variable {p : Program} {l : Launch} {e : Env} {R : Room} {s : State} {m : MethodId} {args : Array Value} {below : List Frame} {meth : Method} {c : Code} {H : Heap} {locs : List Loc} {cells slots : Nat} {Q : State → Prop}
variable {D : va_G} {A : Nat → Prop} {ws : va_W} {own E nm : String} {rest st0 : List Value} {pc : Nat} {ls : Array Slot}
theorem x_catch (hgo : xGo p l e R s m args below meth c H locs cells slots D A ws E (F0 m pc ls st0) rest) (hown : s.vm.findClass own = some m.cls) (pre : List ExceptionTableEntry) (x : ExceptionTableEntry) (suf : List ExceptionTableEntry) (hsplit : c.exceptionTable.toList = pre ++ x :: suf)
    (hpre : ∀ z ∈ pre, covers z pc = true ∧ z.catchType ≠ 0 ∧ ∃ n2, (Cond.classLink own z.catchType n2).before args s = true ∧ va_Nc E n2 s) (hx : covers x pc = true) (h0 : x.catchType ≠ 0) (hlink : (Cond.classLink own x.catchType nm).before args s = true) (hcast : (Cond.castable E nm).before args s = true)
    (kk : ∀ (q : Addr) (H1 : Heap) (locs1 : List Loc), va_P D cls ws H1 → va_D A ws → va_S A s.heap H1 locs1 → W p l e R s m args below meth c H1 locs1 (cells + 1) (slots + 6) Q (F0 m x.handlerPc ls [.ref q])) : W p l e R s m args below meth c H locs cells slots Q (F0 m pc ls st0) := by
  intro T hT X
  obtain ⟨q, T', L, X', hP', hD', hS', ⟨ce, hce, hcv, hcc⟩, st⟩ := hgo T hT X
  have hpl : e.platform.magicAccessors = ({} : Platform).magicAccessors := by rw [X'.admits.platform]
  obtain ⟨k0, hk0, -⟩ := Vm.findClass_spec hcc
  have yes : rowYes e.platform s m.cls pc ce.cls x := by
    obtain ⟨c3, c4, hc3, hc4, hasg⟩ := Cond.castable_spec hcast
    cases Option.some.inj (hc3.symm.trans hcc)
    obtain ⟨c5, hc5, hl5⟩ := Cond.classLink_spec hown hlink e.platform hpl
    cases Option.some.inj (hc4.symm.trans hc5)
    exact ⟨hx, h0, c4, hl5, hasg⟩
  have no : ∀ z ∈ pre, rowNo e.platform s m.cls pc ce.cls z := fun z hz => by
    obtain ⟨g1, g2, n2, hl1, hn1⟩ := hpre z hz
    obtain ⟨c6, hc6, hl6⟩ := Cond.classLink_spec hown hl1 e.platform hpl
    obtain ⟨a8, b8, y1, y2, y3⟩ := hn1
    cases Option.some.inj (y1.symm.trans hcc)
    cases Option.some.inj (y2.symm.trans hc6)
    exact ⟨g1, g2, _, hl6, y3⟩
  obtain ⟨vm', hW', hq⟩ := fh_all (e := e) (s := s) (f := { F0 m pc ls st0 with stack := rest }) (a := q) (cell := ce) (fun k h => by rw [hcv] at h; cases h) ⟨k0, hk0⟩ x suf yes pre ((T'.setTop { F0 m pc ls st0 with stack := rest }).pushFrame (.throwing q)) X'.warmed hce no
  have X2 : Stand p l e R s m args below meth c (T'.setVm vm') (locs ++ L) (cells + 1) (slots + 6) := X'.noted hW'
  obtain ⟨t2, a1, b1⟩ := kk q T'.heap (locs ++ L) hP' hD' hS' (T'.setVm vm') rfl X2
  refine ⟨t2, st.trans ?_, b1⟩
  have hf : ∀ (Q : Handler → Pre) (Ep : CtlPost) (d : Bool) (acts : List Action), wp (findHandler { F0 m pc ls st0 with stack := rest } q) Q Ep e d acts ((T'.setTop { F0 m pc ls st0 with stack := rest }).pushFrame (.throwing q)) ↔ Q (.found x.handlerPc) d acts (((T'.setTop { F0 m pc ls st0 with stack := rest }).pushFrame (.throwing q)).setVm vm') := fun Q Ep d acts => by
    rw [Jvm.W.findHandler_eq (meth := meth) (code := c) X'.method' X'.code, hsplit]
    exact hq Q Ep d acts
  have hst : (stepThrowing e ((T'.setTop { F0 m pc ls st0 with stack := rest }).pushFrame (.throwing q)) q (.java { F0 m pc ls st0 with stack := rest } :: T'.frames.tail)).Is ((((T'.setTop { F0 m pc ls st0 with stack := rest }).pushFrame (.throwing q)).setVm vm').setFrames (.java { F0 m pc ls st0 with pc := x.handlerPc, stack := [.ref q] } :: T'.frames.tail)) [] := by
    simp only [stepThrowing, searchFrame, vmDo]
    generalize hr : Sem.go _ e false [] _ = res
    obtain ⟨as, rfl, ha⟩ := Sem.eq_ok_of hr (a := Handler.found x.handlerPc) (s' := ((T'.setTop { F0 m pc ls st0 with stack := rest }).pushFrame (.throwing q)).setVm vm') (acts' := []) (by simp [hf _ _ _ _])
    exact ⟨rfl, ha⟩
  have hh : At T' ({ F0 m pc ls st0 with stack := rest } : JFrame).method c below := X'.here
  obtain ⟨hgo2, hw2⟩ := hh.throwing q
  refine Steps.head hgo2 hw2 ?_
  obtain ⟨g₀, hg0⟩ := Option.isSome_iff_exists.mp hh.top
  obtain ⟨r, hr⟩ := State.topJava?_eq_some.mp hg0
  have hr' : (T'.setVm vm').frames = .java g₀ :: r := hr
  rw [stepThread_throwing (frames_entered hh.top _), hst.1]
  rw [State.setTop_of_frames _ hr'] at a1
  have hx9 : ∀ (u : State) (F G : List Frame), ((u.setFrames F).setVm vm').setFrames G = (u.setVm vm').setFrames G := fun u F G => by
    show ((u.setVm vm').setFrames F).setFrames G = _
    rw [State.setFrames_setFrames]
  rw [hr, List.tail_cons, State.pushFrame, State.setTop_of_frames _ hr, hx9, hx9]
  exact a1
end XCA
