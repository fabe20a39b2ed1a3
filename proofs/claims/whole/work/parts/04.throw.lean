-- ===== methods that throw: the words of 'throw new X("..")', X a child of RuntimeException =====
def rtN : String := "java/lang/RuntimeException"
def exN : String := "java/lang/Exception"
def xt (own : String) (ic : Nat) (X : String) : List Cond :=
  [.methodLink own ic (Bundle.initS X), .instantiable X 6, .castable X X, .selects X Bundle.tFill0 Bundle.tFill0, .selects X Bundle.tFill Bundle.tFill,
   .lays X Bundle.tN "cause" "Ljava/lang/Throwable;", .lays X Bundle.tN "stackTrace" Bundle.steD, .lays X Bundle.tN "suppressedExceptions" Bundle.listD, .lays X Bundle.tN "detailMessage" "Ljava/lang/String;",
   .isRef (.static Bundle.tN "UNASSIGNED_STACK" Bundle.steD), .isRef (.static Bundle.tN "SUPPRESSED_SENTINEL" Bundle.listD),
   .fieldLink Bundle.tN 198 Bundle.tN "backtrace" "Ljava/lang/Object;", .lays Bundle.tN Bundle.tN "backtrace" "Ljava/lang/Object;", .lays X Bundle.tN "backtrace" "Ljava/lang/Object;"]
def xw (own : String) (ic : Nat) (X : String) (i1 : Nat) (b1 : ByteArray) : List Cond :=
  Bundle.throwableAtoms ++ (Bundle.throwableSAtoms ++ (Bundle.passSAtoms X rtN i1 b1 ++ (Bundle.chainSAtoms rtN [exN] ++ xt own ic X)))
section XCT
variable {p : Program} {l : Launch} {e : Env} {R : Room} {s : State} {m : MethodId} {args : Array Value} {below : List Frame} {meth : Method} {c : Code} {V : State} {locs : List Loc} {cells slots : Nat}
set_option maxHeartbeats 4000000 in
/-- the constructor's chain and the throw: the object lies at a, all else is as it was -/
theorem x_ctor (X : Stand p l e R s m args below meth c V locs cells slots) (hexec : p.tables.exec = Jvm.exec) (htr : e.platform.stackTraces = false) {own cls : String} {ic i1 : Nat} {b1 : ByteArray} {A : Nat → Prop}
    (hown : s.vm.findClass own = some m.cls) (hcls : Bundle.fit cls = true)
    (q0 : decode b1 0 = .ok (.aload_n 0, 1)) (q1 : decode b1 1 = .ok (.aload_n 1, 1)) (q2 : decode b1 2 = .ok (.invokespecial i1, 3)) (q5 : decode b1 5 = .ok (.return_, 1))
    (h : ∀ w ∈ xw own ic cls i1 b1, w.before args s = true)
    (hlA : ∀ x ∈ locs, A x.base) (hz : zS Bundle.tN "UNASSIGNED_STACK" Bundle.steD A s s.heap)
    {a : Addr} {cX : ClassId} {kX : Class} (hfoundX : s.vm.findClass cls = some cX) (hkX : s.vm.classes[cX]? = some kX) (hcell : V.heap[a]? = some (freshCell cX kX)) (hnew : s.heap.size ≤ a)
    {msg : Value} (hmsg : msg.isRef = true)
    {g : JFrame} (hg : g.method = m) (hsize : g.locals.size = c.maxLocals) (hlocked : g.locked = none) (hentered : g.entered = []) {rest : List Value} (hstack : g.stack = msg :: .ref a :: .ref a :: rest)
    (hd6 : decode c.code g.pc = .ok (.invokespecial ic, 3)) (hd9 : decode c.code (g.pc + 3) = .ok (.athrow, 1)) (hout : ∀ x ∈ c.exceptionTable.toList, covers x (g.pc + 3) = false)
    (hRframes : 5 < R.frames) (hRlocals : 2 * g.monitorRoom + ((Value.ref a :: rest).map fun v => v.category).sum + 81 ≤ R.locals) (hlocks : meth.locks = false) :
    ∃ U : State, Steps p.tables e below (V.setTop g) U ∧ U.status = .running ∧ Ended U below (.threw a) ∧ s.WarmedH U.vm ∧ s.sameButNew ({ U with vm := s.vm } : State) locs cells slots ∧
      (∃ ce : Cell, U.heap[a]? = some ce ∧ ce.vm = .none ∧ s.vm.findClass cls = some ce.cls) ∧ U.heap.size = V.heap.size ∧ ∀ q : Nat, q ≠ a → U.heap[q]? = V.heap[q]? := by
  have howns : e.platform.frameOwnsMonitors = true := by rw [X.admits.platform]
  have hfin : e.platform.finalization = false := by rw [X.admits.platform]
  have hpl : e.platform.magicAccessors = ({} : Platform).magicAccessors := by rw [X.admits.platform]
  have w : ∀ x, x ∈ xt own ic cls → x.holds args s none s [] = true := fun x hx => h x (by simp only [xw, List.mem_append]; exact Or.inr (Or.inr (Or.inr (Or.inr hx))))
  obtain ⟨T, Z0, L, -, Y⟩ := ThrowableC.of_atoms (args := args) howns hfin hpl (fun x hx => h x (by simp only [xw, List.mem_append]; exact Or.inl hx))
  obtain ⟨Z, M, LZ, LM, hnZ⟩ := Init0T.ofS_atoms (args := args) hpl L Y (fun x hx => h x (by simp only [xw, List.mem_append]; exact Or.inr (Or.inl hx)))
  have hwp : ∀ x ∈ Bundle.passSAtoms cls rtN i1 b1, x.before args s = true := fun x hx => h x (by simp only [xw, List.mem_append]; exact Or.inr (Or.inr (Or.inl hx)))
  have hwc : ∀ x ∈ Bundle.chainSAtoms rtN [exN], x.before args s = true := fun x hx => h x (by simp only [xw, List.mem_append]; exact Or.inr (Or.inr (Or.inr (Or.inl hx))))
  obtain ⟨P1, L1, hP1m, hP1s⟩ := PassC.ofS_atoms (args := args) hpl (Bundle.fit_spec hcls).1 (by decide) q0 q1 q2 q5 hwp
  obtain ⟨P2, Ps, hlen, L2, hLs, hP2m, hl2, hl3⟩ := Bundle.chainS (args := args) hpl hnZ [exN] rtN (by decide) (by decide) hwc
  have hnext : P1.sup = P2.m := Option.some.inj (hP1s.symm.trans hP2m)
  have hfound : s.vm.findClass cls = some P1.m.cls := findClass_of_methodNamed hP1m
  cases Option.some.inj (hfoundX.symm.trans hfound)
  obtain ⟨c1, kX', hc1, hk, hord, -, -, hn6⟩ := Cond.instantiable_spec (w (.instantiable cls 6) (by simp [xt]))
  cases Option.some.inj (hc1.symm.trans hfound)
  cases Option.some.inj (hkX.symm.trans hk)
  have hsel0 : selectMethod e.platform s.vm P1.m.cls T.fill0 = .method T.fill0 := by
    obtain ⟨c2, r2, m2, z1, z2, z3, z4, -⟩ := Cond.selects_spec (w (.selects cls Bundle.tFill0 Bundle.tFill0) (by simp [xt]))
    cases Option.some.inj (z1.symm.trans hfound)
    cases Option.some.inj (z2.symm.trans (State.methodFound?_of_named Y.fill0 (by decide)))
    cases Option.some.inj (z3.symm.trans Y.fill0)
    rw [Launch.admits_selectMethod X.admits]
    exact z4
  have hselF : selectMethod e.platform s.vm P1.m.cls T.fill = .method T.fill := by
    obtain ⟨c2, r2, m2, z1, z2, z3, z4, -⟩ := Cond.selects_spec (w (.selects cls Bundle.tFill Bundle.tFill) (by simp [xt]))
    cases Option.some.inj (z1.symm.trans hfound)
    cases Option.some.inj (z2.symm.trans (State.methodFound?_of_named Y.fill (by decide)))
    cases Option.some.inj (z3.symm.trans Y.fill)
    rw [Launch.admits_selectMethod X.admits]
    exact z4
  obtain ⟨cellS0, hcS0, hiss⟩ := Y.statics
  obtain ⟨u0, hu0⟩ := Cond.staticRefV Y.unassigned L.unassignedStatic L.statics hcS0 hiss (w (.isRef (.static Bundle.tN "UNASSIGNED_STACK" Bundle.steD)) (by simp [xt]))
  obtain ⟨sen, hsen⟩ := Cond.staticRefV Y.sentinel L.sentinelStatic L.statics hcS0 hiss (w (.isRef (.static Bundle.tN "SUPPRESSED_SENTINEL" Bundle.listD)) (by simp [xt]))
  obtain ⟨ci198, i198, fB, hk198, hg198, ha198, hsB, -, hnB, htB, hffB⟩ := Cond.ownField (t := .object "java/lang/Object") Y.found L.cls (by decide +kernel) (w (.fieldLink Bundle.tN 198 Bundle.tN "backtrace" "Ljava/lang/Object;") (by simp [xt])) (w (.lays Bundle.tN Bundle.tN "backtrace" "Ljava/lang/Object;") (by simp [xt])) e.platform hpl
  obtain ⟨cellS, hcS', heS, -, hkeep⟩ := X.same.2.2.2.2.2 T.aS cellS0 hcS0
  have hcellS : V.heap[T.aS]? = some cellS := hcS'
  have hnA : ¬ A T.aS := by
    obtain ⟨cz, kz, iz, fz, az, cellz, vz, -, y1, -, y3, -, -, -, -, -, -, -, y11⟩ := hz
    cases Option.some.inj (Y.unassigned.symm.trans y1)
    cases Option.some.inj (L.statics.symm.trans y3)
    exact y11
  have hout' : ∀ i, (⟨T.aS, i⟩ : Loc) ∉ locs := fun i hmem => hnA (hlA _ hmem)
  have hknownS : cellS.vm ≠ .unknown := by
    rw [heS]
    intro hu
    rw [show cellS0.vm = .unknown from hu] at hiss
    cases hiss
  have hneS : T.aS ≠ a := Nat.ne_of_lt (Nat.lt_of_lt_of_le (Array.getElem?_eq_some_iff.mp hcS0).1 hnew)
  obtain ⟨iM, hffM⟩ := Y.msg
  obtain ⟨tyC, dC, hdC, hdnC⟩ := Cond.laysAt hfound hk Y.cause (w (.lays cls Bundle.tN "cause" "Ljava/lang/Throwable;") (by simp [xt]))
  obtain ⟨tyS, dS, hdS, hdnS⟩ := Cond.laysAt hfound hk Y.stack (w (.lays cls Bundle.tN "stackTrace" Bundle.steD) (by simp [xt]))
  obtain ⟨tyP, dP, hdP, hdnP⟩ := Cond.laysAt hfound hk Y.supp (w (.lays cls Bundle.tN "suppressedExceptions" Bundle.listD) (by simp [xt]))
  obtain ⟨tyM, dM, hdM, hdnM⟩ := Cond.laysAt hfound hk hffM (w (.lays cls Bundle.tN "detailMessage" "Ljava/lang/String;") (by simp [xt]))
  obtain ⟨tyB, dB, hdB, hdnB⟩ := Cond.laysAt hfound hk hffB (w (.lays cls Bundle.tN "backtrace" "Ljava/lang/Object;") (by simp [xt]))
  have bC := Cond.laysApart hdB hdC hdnB hdnC (by rw [hnB, Y.causeName]; decide)
  have bS := Cond.laysApart hdB hdS hdnB hdnS (by rw [hnB, Y.stackName]; decide)
  have bP := Cond.laysApart hdB hdP hdnB hdnP (by rw [hnB, Y.suppName]; decide)
  have hskip : SkipFacts T e.platform s (fun u => u) u0 ((preparedCellV T.toThrowableT (freshCell P1.m.cls kX) a u0 sen).withEntry V.cur) :=
    ⟨{ ci198 := ci198, i198 := i198, fBack := fB }, ⟨hk198, hg198, ha198, hsB⟩, by
      have := fresh_default (c := P1.m.cls) tyB
      rw [htB] at this
      simpa [preparedCellV, Cell.setSlot, Cell.withEntry, Array.getElem?_setIfInBounds, bC, bS, bP, bC.symm, bS.symm, bP.symm, defaultValue] using this, fun _ _ => rfl⟩
  obtain ⟨tm, methC, cdC, kC, vm₁, hnC, -, -, -, -, -, -, -, hW₁, st1⟩ := Steps.initColdS (tb := p.tables) (e := e) (below := below) (s := s) (U := V) X.here hexec X.warmed hpl hown (t := Bundle.initS cls) rfl rfl (Bundle.fit_spec hcls).2
    (w (.methodLink own ic (Bundle.initS cls)) (by simp [xt])) (hwp (.instanceMethod (Bundle.initS cls)) (by simp [Bundle.passSAtoms])) (bytes := b1) (maxL := 2) (hwp (.code (Bundle.initS cls) b1 2 none) (by simp [Bundle.passSAtoms]))
    (f := g) hg (a := a) (msg := msg) (rest := .ref a :: rest) hstack hd6
  cases Option.some.inj (hnC.symm.trans hP1m)
  have X₁ := X.noted hW₁
  obtain ⟨vm₂, X₂, st2⟩ := X₁.ctorMessageOffV hexec (g := { g with stack := .ref a :: rest }) hg hsize T L Z LZ M LM (P1 :: P2 :: Ps)
    (fun P hP => by
      rcases List.mem_cons.mp hP with rfl | hP
      · exact L1
      · rcases List.mem_cons.mp hP with rfl | hP
        · exact L2
        · exact hLs P hP) ⟨hnext, hl2, hl3⟩ (u0 := u0) (sen := sen) (self := a) hmsg (cell := freshCell P1.m.cls kX) (cellS := cellS)
    hcell (fun _ => by simp) (by simp) rfl rfl hsel0 hselF hcellS hneS hknownS (by rw [hkeep _ (hout' _)]; exact hu0) (by rw [hkeep _ (hout' _)]; exact hsen)
    (Takes.of_laid hk hord tyC (by rw [Y.causeType]; rfl)) (Takes.of_laid hk hord tyS (by rw [Y.stackType]; exact fits_refV_array _ u0)) (Takes.of_laid hk hord tyP (by rw [Y.suppType]; exact fits_refV_object _ sen))
    (Takes.of_laid hk hord tyM (by rw [Y.msgType]; exact fits_refV_object _ ⟨msg, hmsg⟩)) Y.objLocals hskip htr [] hd6
    (by simp only [List.length_cons, List.length_nil] at hlen ⊢; omega) (by simp only [List.length_cons, List.length_nil] at hlen ⊢; rw [hlen]; exact hRlocals)
  obtain ⟨hwalk, hrun, hended, hWU, hsame⟩ := X₂.athrowLeaves hexec (g := { g with stack := .ref a :: rest, pc := g.pc + 3 }) hg hlocked hentered hout (a := a) (rest := rest) rfl hd9 hlocks
  have hlt : a < ((V.setVm vm₁).setVm vm₂).heap.size := (Array.getElem?_eq_some_iff.mp hcell).1
  refine ⟨_, st1 _ (fun acts => ?_), hrun, hended, hWU, hsame.weaken (fun y hy hlt' => ?_) (Nat.le_refl _) (Nat.le_refl _), ⟨_, heapAt_setCell_self (s := (V.setVm vm₁).setVm vm₂) (plainBareV T.toThrowableT (freshCell P1.m.cls kX) a u0 sen msg) hlt, rfl, hfound⟩, ?_, fun q hq => heapAt_setCell_ne (s := (V.setVm vm₁).setVm vm₂) (plainBareV T.toThrowableT (freshCell P1.m.cls kX) a u0 sen msg) (Ne.symm hq)⟩
  · rw [doInvoke_state]
    exact st2 _ hwalk
  · rcases List.mem_append.mp hy with h1 | h1
    · exact h1
    · exfalso
      have hb : y.base = a := by
        simp only [List.mem_cons, List.not_mem_nil, or_false] at h1
        rcases h1 with rfl | rfl | rfl | rfl | rfl <;> rfl
      rw [hb] at hlt'
      exact Nat.not_lt.mpr hnew hlt'
  · show (((V.setVm vm₁).setVm vm₂).heap.setIfInBounds a _).size = V.heap.size
    rw [Array.size_setIfInBounds]
    rfl
end XCT
/-- the end of a method that throws an object of the class E: its world as it was -/
def xT (D : va_G) (k : k3) (A : Nat → Prop) (wc : va_W) (E : String) (st t : State) (q : Addr) : Prop :=
  po_ D k A wc t ∧ va_F A st t ∧ (∃ ce : Cell, t.heap[q]? = some ce ∧ ce.vm = .none ∧ st.vm.findClass E = some ce.cls) ∧ st.WarmedH t.vm ∧ ∃ L : List Loc, st.sameButNew ({ t with vm := st.vm } : State) L 1 6 ∧ ∀ z ∈ L, A z.base
/-- a method that throws E -/
def Thr (l : Launch) (y : MethodName) (ws : List Cond) (rm : Room) (av : List Value) (D : va_G) (k : k3) (sz : Nat) (wc : va_W) (E : String) : Prop :=
  MetFree l y (headSpec ws rm) (va_Pc av (pr_ D k sz wc)) (fun _ _ _ _ _ => True) (fun _ st o t => ∃ q, o = .threw q ∧ xT D k (va_A wc sz) wc E st t q)
/-- what its body owes -/
def TQ (below : List Frame) (D : va_G) (k : k3) (A : Nat → Prop) (wc : va_W) (E : String) (s : State) : State → Prop := fun t => t.status = .running ∧ ∃ q, Ended t below (.threw q) ∧ xT D k A wc E s t q
section XEN
variable {l : Launch} {D : va_G} {k : k3} {ws : va_W}
theorem en_T {y : MethodName} {bytes : ByteArray} {maxL : Nat} {ret : Option FieldType} {rm : Room} {av : List Value} {sz : Nat} {E : String} (hy : plainName y.cls = true)
    (body : ∀ (p : Program) (e : Env) (s : State) (m : MethodId) (below : List Frame) (meth : Method) (c : Code), s.heap.size = sz → p.tables.exec = Jvm.exec → c.code = bytes → meth.sig.returnType = ret → c.maxLocals = maxL → s.vm.findClass y.cls = some m.cls → (∀ w ∈ uW, w.before av.toArray s = true) → meth.locks = false → c.exceptionTable.isEmpty = true →
      va_P D cls ws s.heap → va_K D cls (tys k) s → va_D (va_A ws s.heap.size) ws → NE s → EV (va_A ws s.heap.size) s s.heap → W p l e rm s m av.toArray below meth c s.heap [] 0 0 (TQ below D k (va_A ws s.heap.size) ws E s) (entryFrame m av.toArray maxL)) :
    Thr l y (Cond.code y bytes maxL ret :: uW) rm av D k sz ws E := by
  refine MetFree.of_bodyS (code := bytes) (maxLocals := maxL) (ret := ret) hy ?_ ?_
  · intro args s m h hn
    obtain ⟨meth, c, h1, h2, h3, h4, h5, h6, -, -⟩ := Cond.code_spec hn (atoms_spec (ws := Cond.code y bytes maxL ret :: uW) h _ List.mem_cons_self)
    exact ⟨meth, c, h1, h2, h3, h4, h5, h6⟩
  · intro p e s m args below meth c s₁ B hml hv _
    obtain ⟨rfl, hsz, hP, hK, hD0, hN, hV⟩ := hv
    have hts := atoms_spec (ws := Cond.code y bytes maxL ret :: uW) B.pre
    have X0 := Stand.of_body B
    have hex : c.exceptionTable.isEmpty = true := by
      obtain ⟨meth', c', z1, z2, -, -, -, -, z7, -⟩ := Cond.code_spec B.named (hts _ List.mem_cons_self)
      cases Option.some.inj (B.method.symm.trans z1)
      cases Option.some.inj (z2.symm.trans X0.code)
      exact z7
    have hh0 : s₁.heap = s.heap := by rw [B.state]; rfl
    subst hsz
    obtain ⟨t, a1, b1, q, b2, b3⟩ := body p e s m below meth c rfl B.exec B.bytes B.returns hml (findClass_of_methodNamed B.named) (fun w h => hts w (List.mem_cons_of_mem _ h)) B.notSynchronized hex hP hK hD0.self hN hV s₁ hh0 X0
    exact ⟨t, .threw q, a1, b1, b2, q, rfl, b3⟩
end XEN
section XTH
variable {p : Program} {l : Launch} {e : Env} {R : Room} {s : State} {m : MethodId} {args : Array Value} {below : List Frame} {meth : Method} {c : Code} {H : Heap} {locs : List Loc} {cells slots : Nat} {Q : State → Prop}
variable {D : va_G} {k : k3} {A : Nat → Prop} {ws w' : va_W} {pc : Nat} {ls : Array Slot} {rest : List Value} {cc : ByteArray}
theorem x_none {c : Code} (h : c.exceptionTable.isEmpty = true) (q : Nat) : ∀ x ∈ c.exceptionTable.toList, covers x q = false := by
  intro x hx
  have h1 : c.exceptionTable.toList = [] := by
    rw [Array.isEmpty_iff] at h
    rw [h]
  rw [h1] at hx
  exact absurd hx List.not_mem_nil
set_option maxHeartbeats 1000000 in
/-- throw new xc("text") -/
theorem x_throw {own xc text : String} {ik is ic i1 sa : Nat} {b1 : ByteArray} (hx : p.tables.exec = Jvm.exec) (hb : c.code = cc) (hl : l.stackTraces = false) (hown : s.vm.findClass own = some m.cls) (hex : c.exceptionTable.isEmpty = true) (hlocks : meth.locks = false) (hsize : ls.size = c.maxLocals)
    (hk9 : (Cond.classLink own ik xc).before args s = true) (hini : (Cond.initialized xc).before args s = true) (hstr : vk_R own is text sa s) (hw : ∀ w ∈ xw own ic xc i1 b1, w.before args s = true) (hcls : Bundle.fit xc = true)
    (q0 : decode b1 0 = .ok (.aload_n 0, 1)) (q1 : decode b1 1 = .ok (.aload_n 1, 1)) (q2 : decode b1 2 = .ok (.invokespecial i1, 3)) (q5 : decode b1 5 = .ok (.return_, 1))
    (hP : va_P D cls ws H) (hK : va_K D cls (tys k) s) (hD : va_D A ws) (hV : EV A s s.heap) (hS : va_S A s.heap H locs) (js : List Nat) (h1 : js.filterMap (fun i => ws[i]?) = w') (h2 : va_nd js = true) (h3 : js.map (fun i => ws[i]?) = w'.map some)
    (d0 : decode cc pc = .ok (.new ik, 3)) (d3 : decode cc (pc + 3) = .ok (.dup, 1)) (d4 : decode cc (pc + 4) = .ok (.ldc is, 2)) (d6 : decode cc (pc + 6) = .ok (.invokespecial ic, 3)) (d9 : decode cc (pc + 9) = .ok (.athrow, 1))
    (hR1 : 5 < R.frames) (hR2 : (rest.map fun v => v.category).sum + 82 ≤ R.locals) (hR3 : 1 ≤ R.cells) (hR4 : 6 ≤ R.slots) :
    W p l e R s m args below meth c H locs 0 0 (TQ below D k A w' xc s) (F0 m pc ls rest) := by
  have hw6 : (Cond.instantiable xc 6).before args s = true := hw _ (by simp only [xw, List.mem_append]; exact Or.inr (Or.inr (Or.inr (Or.inr (by simp [xt])))))
  refine W.newc (g := F0 m pc ls rest) hx hb hown hk9 hw6 hini rfl d0 (by omega) (by omega) (fun cC kC f1 f2 f3 f4 => ?_)
  refine W.eq (g2 := F0 m (pc + 3) ls (.ref H.size :: rest)) rfl ?_
  refine lv_dup hx hb d3 rfl ?_
  refine va_ldcS hx hb hown hstr d4 ?_
  intro T hT X
  have hTs : T.heap.size = H.size + 1 := by rw [hT]; simp
  have hTo : ∀ q : Nat, q < H.size → T.heap[q]? = H[q]? := fun q hq => by
    rw [hT, Array.getElem?_push, if_neg (Nat.ne_of_lt hq)]
  obtain ⟨U, st, hrun, hend, hW, hsame, hce, hsz, hoth⟩ := x_ctor (A := A) X hx (by rw [X.admits.platform]; exact hl) hown hcls q0 q1 q2 q5 hw (fun x hx => hS.2.2 x hx) hV.2.1 (a := H.size) f1 f2 (by rw [hT]; simp) hS.1 (msg := .ref sa) rfl
    (g := F0 m (pc + 4 + 2) ls (.ref sa :: .ref H.size :: .ref H.size :: rest)) rfl hsize rfl rfl rfl (by rw [hb]; exact d6) (by rw [hb]; exact d9) (x_none hex _) hR1
    (by show 2 * 0 + ((Value.ref H.size :: rest).map fun v => v.category).sum + 81 ≤ R.locals; simp only [List.map_cons, List.sum_cons]; show 2 * 0 + (1 + _) + 81 ≤ _; omega) hlocks
  have hUo : ∀ q : Nat, q < H.size → U.heap[q]? = H[q]? := fun q hq => by rw [hoth q (Nat.ne_of_lt hq), hTo q hq]
  have hPU : va_P D cls ws U.heap := hP.kept (fun k9 q hk => hUo q.1 (hP k9 q hk).lt)
  refine ⟨U, st, hrun, H.size, hend, ⟨hPU.sub js h1, va_K.moved hW.alike hK, hD.sub js h2 h3⟩, ⟨?_, fun q hq hn => ?_⟩, hce, hW, locs, hsame, hS.2.2⟩
  · rw [hsz, hTs]
    exact Nat.le_succ_of_le hS.1
  · rw [hUo q (Nat.lt_of_lt_of_le hq hS.1)]
    exact hS.2.1 q hq hn
end XTH
