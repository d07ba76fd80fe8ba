theorem sb_kept {s t : State} {k n : Nat} (h : s.sameButNew t [] k n) {a : Nat} (ha : a < s.heap.size) : t.heap[a]? = s.heap[a]? := by
  obtain ⟨c0, hc⟩ : ∃ c0, s.heap[a]? = some c0 := ⟨_, Array.getElem?_eq_getElem ha⟩
  obtain ⟨c', h1, h2, h3, h4⟩ := h.2.2.2.2.2 a c0 hc
  have h5 : c'.slots = c0.slots := Array.ext_getElem? (fun i => h4 i List.not_mem_nil)
  rw [h1, hc, h2, h5]
theorem w_mono {p : Program} {l : Launch} {e : Env} {R : Room} {s : State} {m : MethodId} {args : Array Value} {below : List Frame} {meth : Method} {c : Code} {H : Heap} {locs : List Loc} {cells slots : Nat} {Q1 Q2 : State → Prop} {g : JFrame} (hm : ∀ t, Q1 t → Q2 t) (h : W p l e R s m args below meth c H locs cells slots Q1 g) : W p l e R s m args below meth c H locs cells slots Q2 g := fun T hT X => by
  obtain ⟨t, a, b⟩ := h T hT X
  exact ⟨t, a, hm t b⟩
theorem st_weaken {tb : Tables} {e : Env} {mid below : List Frame} {a b : State} (h : Steps tb e (mid ++ below) a b) : Steps tb e below a b := by
  obtain ⟨n, hn, w⟩ := h
  exact ⟨n, hn, fun k hk => (w k hk).weaken⟩
section GT
variable {p : Program} {l : Launch} {e : Env} {R : Room} {s : State} {m : MethodId} {args : Array Value} {below : List Frame} {meth : Method} {c : Code} {T : State} {locs : List Loc} {cells slots : Nat}
/-- into a method that is called by invokevirtual: its own walk begins -/
theorem st_inV (X : Stand p l e R s m args below meth c T locs cells slots) (hexec : p.tables.exec = Jvm.exec) {own C : String} {index : Nat} {y : MethodName} {bytes : ByteArray} {maxL : Nat} {ret : Option FieldType}
    (hown : s.vm.findClass own = some m.cls) (hlink : (Cond.methodLink own index y).before args s = true) (hinst : (Cond.instanceMethod y).before args s = true) (hsel : (Cond.selects C y y).before args s = true)
    (hcode : (Cond.code y bytes maxL ret).before args s = true) (hy : y.cls ≠ "java/lang/invoke/MethodHandle" ∧ y.cls ≠ "java/lang/invoke/VarHandle") (hpl : plainFor y = true)
    {b : Addr} {cellB : Cell} (hcell : T.heap[b]? = some cellB) (hobj : cellB.vm.isStatics = false) (hcls : s.vm.findClass C = some cellB.cls)
    {g : JFrame} (hg : g.method = m) (hsize : g.locals.size = c.maxLocals) {argsL rest : List Value} (hlen : ∀ sig, parseMethodDescriptor y.desc = some sig → argsL.length = sig.parameters.length)
    (hstack : g.stack = argsL.reverse ++ .ref b :: rest) (hdg : decode c.code g.pc = .ok (.invokevirtual index, 3))
    (R' : Room) (hframes : R'.frames + 1 ≤ R.frames) (hlocals : 2 * g.monitorRoom + (rest.map fun v => v.category).sum + (maxL + 11) + R'.locals ≤ R.locals) (hcells : cells + R'.cells ≤ R.cells) (hslots : slots + R'.slots ≤ R.slots) :
    ∃ (vm₁ : Vm) (mk : MethodId) (methM : Method) (cM : Code) (E : State), s.WarmedH vm₁ ∧ Stand p l e R s m args below meth c (T.setVm vm₁) locs cells slots ∧ s.methodNamed? y = some mk ∧ cM.code = bytes ∧ cM.maxLocals = maxL ∧ methM.sig.returnType = ret ∧ methM.locks = false ∧ cM.exceptionTable.isEmpty = true ∧ E.heap = T.heap ∧
      Stand p l e R' ((T.setVm vm₁).calling { g with stack := rest } mk (Value.ref b :: argsL).toArray) mk (Value.ref b :: argsL).toArray (.java { g with stack := rest } :: below) methM cM E [] 0 0 ∧
      ∀ tg, Steps p.tables e below (E.setTop (entryFrame mk (Value.ref b :: argsL).toArray maxL)) tg → Steps p.tables e below (T.setTop g) tg := by
  obtain ⟨mk, methM, hnamed, hmethM, hstM, habM⟩ := Cond.instanceMethod_spec hinst
  obtain ⟨methM', cM, hmethM', hcM, hbM, hlM, hrM, hkM, heM, hsigM⟩ := Cond.code_spec hnamed hcode
  cases hmethM.symm.trans hmethM'
  obtain ⟨c2, r2, m2, q1, q2, q3, q4, kP, hkP, hkPi⟩ := Cond.selects_spec hsel
  cases hcls.symm.trans q1
  cases (State.methodFound?_of_named hnamed hy).symm.trans q2
  cases hnamed.symm.trans q3
  have hselP : selectMethod e.platform s.vm cellB.cls mk = .method mk := by rw [Launch.admits_selectMethod X.admits]; exact q4
  obtain ⟨vm₁, X₁, hstep₁⟩ := X.invokevirtual hexec hown hlink hnamed hmethM hstM hkP hkPi hy (a := b) (cell := cellB) hcell
    (fun z h => by rw [h] at hobj; cases hobj) hselP hmethM habM hkP hkPi (g := g) hg (argsL := argsL) (rest := rest) (hlen _ hsigM) hstack hdg
  have hm1 : (T.setVm vm₁).vm.method? mk = some methM := by rw [X₁.warmed.alike.method?]; exact hmethM
  obtain ⟨Y, hin⟩ := X₁.into (g := { g with stack := rest }) hg hsize hdg (Value.ref b :: argsL).toArray (R' := R') hm1 hcM hkM (State.plainMethod.of_named hpl (X₁.named hnamed) hm1) hframes (by rw [hlM]; exact hlocals) hcells hslots
  refine ⟨vm₁, mk, methM, cM, ((T.setVm vm₁).setTop { g with stack := rest }).pushFrame (.java (entryFrame mk (Value.ref b :: argsL).toArray cM.maxLocals)), X₁.warmed, X₁, hnamed, hbM, hlM, hrM, hkM, heM, rfl, Y, fun tg h => hstep₁ _ fun acts => ?_⟩
  rw [hin acts]
  rw [← hlM] at h
  exact h
/-- into a static method that has handlers -/
theorem st_inSW (X : Stand p l e R s m args below meth c T locs cells slots) (hexec : p.tables.exec = Jvm.exec) {own : String} {index : Nat} {y : MethodName} {bytes : ByteArray} {maxL : Nat} {ret : Option FieldType} {hs : List (Nat × Nat × Nat × Nat)}
    (hown : s.vm.findClass own = some m.cls) (hlink : (Cond.methodLink own index y).before args s = true) (hstat : (Cond.static y).before args s = true) (hinit : (Cond.initialized y.cls).before args s = true)
    (hcode : (Cond.codeWith y bytes maxL ret hs).before args s = true) (hy : y.cls ≠ "java/lang/invoke/MethodHandle" ∧ y.cls ≠ "java/lang/invoke/VarHandle") (hpl : plainFor y = true)
    {g : JFrame} (hg : g.method = m) (hsize : g.locals.size = c.maxLocals) {argsL rest : List Value} (hlen : ∀ sig, parseMethodDescriptor y.desc = some sig → argsL.length = sig.parameters.length)
    (hstack : g.stack = argsL.reverse ++ rest) (hdg : decode c.code g.pc = .ok (.invokestatic index, 3))
    (R' : Room) (hframes : R'.frames + 1 ≤ R.frames) (hlocals : 2 * g.monitorRoom + (rest.map fun v => v.category).sum + (maxL + 11) + R'.locals ≤ R.locals) (hcells : cells + R'.cells ≤ R.cells) (hslots : slots + R'.slots ≤ R.slots) :
    ∃ (vm₁ : Vm) (mk : MethodId) (methM : Method) (cM : Code) (E : State), s.WarmedH vm₁ ∧ Stand p l e R s m args below meth c (T.setVm vm₁) locs cells slots ∧ s.methodNamed? y = some mk ∧ cM.code = bytes ∧ cM.maxLocals = maxL ∧ methM.sig.returnType = ret ∧ methM.locks = false ∧ cM.exceptionTable.toList.map (fun h => (h.startPc, h.endPc, h.handlerPc, h.catchType)) = hs ∧ E.heap = T.heap ∧
      Stand p l e R' ((T.setVm vm₁).calling { g with stack := rest } mk argsL.toArray) mk argsL.toArray (.java { g with stack := rest } :: below) methM cM E [] 0 0 ∧
      ∀ tg, Steps p.tables e below (E.setTop (entryFrame mk argsL.toArray maxL)) tg → Steps p.tables e below (T.setTop g) tg := by
  obtain ⟨mk, methM, cM, hnamed, hmethM, hcM, hbM, hlM, heM, hrM, hkM, hsigM⟩ := Cond.codeWith_spec hcode
  have hstatic : methM.isStatic = true := Cond.static_spec hnamed hmethM hstat
  obtain ⟨kP, hkP, -⟩ := className_of_methodNamed hnamed
  have hinitP : kP.init = .initialized := Cond.initialized_spec (findClass_of_methodNamed hnamed) hkP hinit
  obtain ⟨vm₁, X₁, hstep₁⟩ := X.invokestatic hexec hown hlink hnamed hmethM hstatic hkP hinitP hy (g := g) hg (argsL := argsL) (rest := rest) (hlen _ hsigM) hstack hdg
  have hm1 : (T.setVm vm₁).vm.method? mk = some methM := by rw [X₁.warmed.alike.method?]; exact hmethM
  obtain ⟨Y, hin⟩ := X₁.into (g := { g with stack := rest }) hg hsize hdg argsL.toArray (R' := R') hm1 hcM hkM (State.plainMethod.of_named hpl (X₁.named hnamed) hm1) hframes (by rw [hlM]; exact hlocals) hcells hslots
  refine ⟨vm₁, mk, methM, cM, ((T.setVm vm₁).setTop { g with stack := rest }).pushFrame (.java (entryFrame mk argsL.toArray cM.maxLocals)), X₁.warmed, X₁, hnamed, hbM, hlM, hrM, hkM, heM, rfl, Y, fun tg h => hstep₁ _ fun acts => ?_⟩
  rw [hin acts]
  rw [← hlM] at h
  exact h
/-- caught by the method's only handler -/
theorem st_catch (X : Stand p l e R s m args below meth c T locs cells slots) {own nm : String} {sp ep hp index : Nat} (htab : c.exceptionTable.toList.map (fun h => (h.startPc, h.endPc, h.handlerPc, h.catchType)) = [(sp, ep, hp, index)])
    (h0 : index ≠ 0) (hown : s.vm.findClass own = some m.cls) (hlink : (Cond.classLink own index nm).before args s = true) {a : Addr} {cell : Cell} (hcell : T.heap[a]? = some cell) (hobj : ∀ k, cell.vm ≠ .statics k) (hcls : s.vm.findClass nm = some cell.cls)
    {g : JFrame} (hg : g.method = m) (hpc : sp ≤ g.pc ∧ g.pc < ep) :
    ∃ vm', Stand p l e R s m args below meth c (T.setVm vm') locs cells slots ∧ ∀ tg, Steps p.tables e below ((T.setVm vm').setTop { g with pc := hp, stack := [.ref a] }) tg → Steps p.tables e below ((T.setTop g).pushFrame (.throwing a)) tg := by
  have hpl : e.platform.magicAccessors = ({} : Platform).magicAccessors := by rw [X.admits.platform]
  obtain ⟨c', hc', hcl⟩ := Cond.classLink_spec hown hlink e.platform hpl
  cases hcls.symm.trans hc'
  obtain ⟨dk, _, _, kt, hd, _, _, _, _, hkt, _, hopen⟩ := hcl.here
  have hcl₀ := X.warmed.classLinks hcl
  have hW' : s.WarmedH (T.vm.noted m.cls index (.cls cell.cls)) := X.warmed.noted hd hopen (State.rightAt_cls hcl)
  obtain ⟨kt', hkt', -⟩ := hW'.alike.2.2 _ _ hkt
  obtain ⟨x, hx1, hx2⟩ : ∃ x : ExceptionTableEntry, c.exceptionTable.toList = [x] ∧ (x.startPc, x.endPc, x.handlerPc, x.catchType) = (sp, ep, hp, index) := by
    match hq : c.exceptionTable.toList, htab with
    | [x], h => exact ⟨x, rfl, by simpa using h⟩
  simp only [Prod.mk.injEq] at hx2
  obtain ⟨rfl, rfl, rfl, rfl⟩ := hx2
  subst hg
  refine ⟨_, X.noted hW', fun tg hrest => ?_⟩
  refine caught_to X.here (pc := x.handlerPc) (vm' := T.vm.noted g.method.cls x.catchType (.cls cell.cls)) ?_ hrest
  intro Q E d acts
  rw [Jvm.W.findHandler_eq (meth := meth) (code := c) (by rw [Stand.throwing_vm]; exact X.method') X.code, hx1]
  exact fh_cold (c := cell.cls) (cell := cell) (by simp [covers, hpc.1, hpc.2]) h0 (by rw [Stand.throwing_vm]; exact resolveClass_links e.toSetting hcl₀) (by rw [Stand.throwing_vm]; no_record) (by rw [Stand.throwing_heap]; exact hcell) hobj ⟨_, hkt'⟩ ⟨_, hkt'⟩ (va_asg _ _)
end GT
