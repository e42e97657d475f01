/-! calls of methods that may throw; a handler whose class may not be resolved yet -/
def WT (p : Program) (l : Launch) (e : Env) (R : Room) (s : State) (m : MethodId) (args : Array Value) (below : List Frame) (meth : Method) (c : Code) (H : Heap) (locs : List Loc) (cells slots : Nat) (Q : State → Prop) (g : JFrame) (a : Addr) : Prop :=
  ∀ T : State, T.heap = H → Stand p l e R s m args below meth c T locs cells slots → ∃ t, Steps p.tables e below ((T.setTop g).pushFrame (.throwing a)) t ∧ Q t
theorem go_cold {Q : Handler → Pre} {E : CtlPost} {e : Env} {d : Bool} {acts : List Action} {s : State} {f : JFrame} {a : Addr} {x : ExceptionTableEntry} {t : List ExceptionTableEntry} {c : ClassId} {cell : Cell} {vm' : Vm} (hx : covers x f.pc = true) (h0 : x.catchType ≠ 0)
    (hg : (Jvm.resolveClass f.method.cls x.catchType).Gives e.toSetting s.vm (.ok c) vm') (hsz : vm'.classes.size ≤ s.vm.classes.size) (hcell : s.heap[a]? = some cell) (hobj : ∀ k, cell.vm ≠ .statics k) (hk : ∃ k, vm'.classes[cell.cls]? = some k) (hc : ∃ k, vm'.classes[c]? = some k) (hfit : vm'.assignable cell.cls c = true) :
    wp (findHandler.go f a (x :: t)) Q E e d acts s ↔ Q (.found x.handlerPc) d acts (s.setVm vm') := by
  obtain ⟨ha, ht⟩ := hg.op (op := VmOp.resolveClass f.method.cls x.catchType) rfl
  simp only [covers] at hx
  have hcell' : (s.setVm vm').heap[a]? = some cell := hcell
  have hk' : ∃ k, (s.setVm vm').vm.classes[cell.cls]? = some k := hk
  have hc' : ∃ k, (s.setVm vm').vm.classes[c]? = some k := hc
  simp [findHandler.go, hx, h0, ha, ht, hsz, hcell, hobj, hk, hc, hfit, VmOp.dirties, VmOp.acts]
theorem caught_cold {tb : Tables} {e : Env} {s target : State} {g : JFrame} {c : Code} {below : List Frame} {a : Addr} (h : At s g.method c below) {vm' : Vm} {pc : Nat}
    (hfind : ∀ (Q : Handler → Pre) (E : CtlPost) (d : Bool) (acts : List Action), wp (findHandler g a) Q E e d acts ((s.setTop g).pushFrame (.throwing a)) ↔ Q (.found pc) d acts (((s.setTop g).pushFrame (.throwing a)).setVm vm'))
    (hrest : Steps tb e below ((s.setVm vm').setTop { g with pc := pc, stack := [.ref a] }) target) : Steps tb e below ((s.setTop g).pushFrame (.throwing a)) target := by
  obtain ⟨hgo, hw⟩ := h.throwing a
  refine Steps.head hgo hw ?_
  obtain ⟨g₀, hg⟩ := Option.isSome_iff_exists.mp h.top
  obtain ⟨r, hr⟩ := State.topJava?_eq_some.mp hg
  have hst : (stepThrowing e ((s.setTop g).pushFrame (.throwing a)) a (.java g :: s.frames.tail)).1 = (((s.setTop g).pushFrame (.throwing a)).setVm vm').setFrames (.java { g with pc := pc, stack := [.ref a] } :: s.frames.tail) := by
    simp only [stepThrowing, searchFrame, vmDo]
    generalize hr : Sem.go _ e false [] ((s.setTop g).pushFrame (.throwing a)) = res
    obtain ⟨as, rfl, -⟩ := Sem.eq_ok_of hr (a := Handler.found pc) (s' := ((s.setTop g).pushFrame (.throwing a)).setVm vm') (acts' := []) (by simp [hfind _ _ _ _])
    rfl
  rw [stepThread_throwing (frames_entered h.top _), hst]
  have hr' : (s.setVm vm').frames = .java g₀ :: r := hr
  rw [State.setTop_of_frames _ hr'] at hrest
  have e1 : (((s.setTop g).pushFrame (.throwing a)).setVm vm').setFrames (.java { g with pc := pc, stack := [.ref a] } :: s.frames.tail) = (s.setVm vm').setFrames (.java { g with pc := pc, stack := [.ref a] } :: r) := by
    rw [State.pushFrame, State.setTop_of_frames _ hr, State.setFrames_setFrames, hr]
    show ((s.setVm vm').setFrames _).setFrames _ = _
    rw [State.setFrames_setFrames]
    rfl
  rw [e1]
  exact hrest
section CALLX
variable {p : Program} {l : Launch} {e : Env} {R : Room} {s : State} {m : MethodId} {args : Array Value} {below : List Frame} {meth : Method} {c : Code} {T : State} {H : Heap} {locs : List Loc} {cells slots : Nat} {Q : State → Prop}
variable {cc : ByteArray} {pc : Nat} {ls : Array Slot} {rest st0 : List Value} {G : Gt} {V : Ev} {A : Nat → Prop} {ws wc w' : va_W} {mc ms : Nat} {post : Ot → va_W → Prop}
theorem WT.catch (hb : c.code = cc) {b0 b1 hpc ct : Nat} (htab : c.exceptionTable.toList = tableOf [(b0, b1, hpc, ct)]) (hc0 : b0 ≤ pc) (hc1 : pc < b1) (h0 : ct ≠ 0) {own X : String} (hown : s.vm.findClass own = some m.cls) (hlink : (Cond.classLink own ct X).before args s = true)
    {a : Nat} {cell : Cell} (hcell : H[a]? = some cell) (hobj : cell.vm.isStatics = false) (hcls : s.vm.findClass X = some cell.cls)
    (kk : W p l e R s m args below meth c H locs cells slots Q (F0 m hpc ls [.ref a])) : WT p l e R s m args below meth c H locs cells slots Q (F0 m pc ls st0) a := by
  intro T hT Z
  have hpl : e.platform.magicAccessors = ({} : Platform).magicAccessors := by rw [Z.admits.platform]
  obtain ⟨cT, hcT, hcl⟩ := Cond.classLink_spec hown hlink e.platform hpl
  obtain ⟨hg1, hW1, hr1⟩ := State.classEntry (e := e) Z.warmed hcl
  cases hcls.symm.trans hcT
  obtain ⟨kX, hkX⟩ := Vm.classAt_of_findClass hcls
  obtain ⟨k1, hk1, -⟩ := hW1.alike.2.2 _ _ hkX
  obtain ⟨t, a1, b1'⟩ := kk (T.setVm (T.vm.noted m.cls ct (.cls cell.cls))) hT (Z.noted hW1)
  refine ⟨t, caught_cold (c := c) (g := F0 m pc ls st0) Z.here (vm' := T.vm.noted m.cls ct (.cls cell.cls)) (pc := hpc) ?_ a1, b1'⟩
  intro Q' E d acts
  rw [W.findHandler_eq (meth := meth) (code := c) (by rw [Stand.throwing_vm]; exact Z.method') Z.code, htab]
  have hx : covers (⟨b0, b1, hpc, ct⟩ : ExceptionTableEntry) (F0 m pc ls st0).pc = true := by simp [covers, hc0, hc1]
  exact go_cold (f := F0 m pc ls st0) (x := ⟨b0, b1, hpc, ct⟩) (c := cell.cls) (cell := cell) hx h0 (by rw [Stand.throwing_vm]; exact hg1) (by rw [Stand.throwing_vm]; no_record) (by rw [Stand.throwing_heap, hT]; exact hcell) (VmData.ne_statics_of hobj) ⟨k1, hk1⟩ ⟨k1, hk1⟩ (va_asg _ _)
theorem MetX.come {y : MethodName} {hd : Cond} {rm : Room} {Pc : Array Value → State → Prop} {Qc : Array Value → State → Outcome → State → Prop} {free : Addr → Prop} {bc : ByteArray} {mL : Nat} {ret : Option FieldType} {hs : List (Nat × Nat × Nat × Nat)} (Z : Stand p l e R s m args below meth c T locs cells slots) (hM : MetX l y hd rm Pc Qc mc ms free) (hH : HdOf y hd bc mL ret hs) (hgd : (hd.onTables && hd.keeps) = true) (hhd : hd.before args s = true) (hts : ∀ w ∈ wsA, w.before args s = true) (hini : (Cond.initialized y.cls).before args s = true)
    {g : JFrame} (hg : g.method = m) (hsize : g.locals.size = c.maxLocals) {ig : Instr} {len : Nat} (hdg : decode c.code g.pc = .ok (ig, len)) {mk : MethodId} (hn : s.methodNamed? y = some mk) (a : Array Value) (hfr : rm.frames + 1 ≤ R.frames) (hlo : 2 * g.monitorRoom + (g.stack.map fun v => v.category).sum + (mL + 11) + rm.locals ≤ R.locals) (hcs : cells + rm.cells ≤ R.cells) (hss : slots + rm.slots ≤ R.slots) (hP : Pc a (T.calling g mk a)) :
    ∃ (o : Outcome) (t : State) (L : List Loc), Steps p.tables e below (doInvoke e (T.setTop g) [] mk a).1 t ∧ Ended t (.java g :: below) o ∧ Qc a (T.calling g mk a) o t ∧ FE (T.calling g mk a) t L mc ms ∧ ∀ q ∈ L, free q.base := by
  have hnT := Z.named hn
  have hwd : ∀ w ∈ hd :: wsA, w.before a T = true := by
    intro w hw
    rcases List.mem_cons.mp hw with rfl | hw
    · exact word_at Z.warmed (Or.inl hgd) hhd
    · exact word_at Z.warmed (good_A w hw) (hts w hw)
  obtain ⟨mk', methY, cY, hn', hmY, hcY, -, hlY, -⟩ := hH a T (hwd hd List.mem_cons_self)
  cases hnT.symm.trans hn'
  obtain ⟨kY, hkY, -⟩ := className_of_methodNamed hnT
  have hinitY : kY.init = .initialized := Cond.initialized_spec (findClass_of_methodNamed hnT) hkY (word_at (a' := a) Z.warmed (Or.inl rfl) hini)
  have h : At T g.method c below := by rw [hg]; exact Z.here
  have happ : (headSpec (hd :: wsA) rm).appliesLoose y e.platform (T.calling g mk a) = true := Spec.appliesLoose_calling (g := g) h hdg hnT hkY hinitY (Z.room_calling (g := g) (R' := rm) hsize hmY hcY hfr (by rw [hlY]; exact hlo) hcs hss) (atoms_intro hwd)
  obtain ⟨mid, hmid⟩ := h.above
  have hfr2 : (T.setTop g).frames = (.java g :: mid) ++ below := by rw [State.frames_setTop' g h.top, hmid]; rfl
  obtain ⟨o, t, st, -, hend, hq, L, hF, hL⟩ := Steps.callFree hM p Z.admits Z.cas Z.clock (acts := []) hfr2 happ hP trivial
  rw [State.frames_setTop' g h.top, Z.tail] at hend
  exact ⟨o, t, L, st, hend, hq, hF, hL⟩
theorem CtX.pre {av : List Value} (hW : Wd G A s.heap ws H locs) (hK : KX G s) (hE : EX V A s s.heap) (hA : ∀ q, s.heap.size ≤ q → A q) (is : List Nat) (hn : va_nd is = true) (hC : is.map (fun i => ws[i]?) = wc.map some) : ∀ U : State, U.heap = H → s.WarmedH U.vm → PX G V av wc H.size av.toArray U := by
  intro U hU hWm
  obtain ⟨q0, q1, q2, q3, q4⟩ := Ct.pre (av := av) hW hK is hn hC U hU hWm
  exact ⟨q0, q1, q2, q3, q4, hE.at hW.2.2 (hW.free hA is hC) hU hWm⟩
theorem CtX.back {y : MethodName} {hd : Cond} {rm : Room} {av : List Value} {bc : ByteArray} {mL : Nat} {ret : Option FieldType} {hs : List (Nat × Nat × Nat × Nat)} (hM : CtX l G V y hd rm av wc mc ms post) (hH : HdOf y hd bc mL ret hs) (hgd : (hd.onTables && hd.keeps) = true) (hhd : hd.before args s = true) (hts : ∀ w ∈ wsA, w.before args s = true) (hini : (Cond.initialized y.cls).before args s = true)
    (hb : c.code = cc) (hW : Wd G A s.heap ws H locs) (hK : KX G s) (hE : EX V A s s.heap) (hA : ∀ q, s.heap.size ≤ q → A q) (is : List Nat) (hn : va_nd is = true) (hC : is.map (fun i => ws[i]?) = wc.map some) (hlen : ∀ o w', post o w' → wc.length ≤ w'.length)
    (hsz : ls.size = c.maxLocals) {ig : Instr} (hdg : decode cc pc = .ok (ig, 3)) {mk : MethodId} (hnm : s.methodNamed? y = some mk) (hroom : (rest.map fun v => v.category).sum ≤ 8) (hfr : rm.frames + 1 ≤ R.frames) (hlo : 8 + (mL + 11) + rm.locals ≤ R.locals) (hrc : rm.cells = mc) (hrs : rm.slots = ms) (hcs : cells + mc ≤ R.cells) (hss : slots + ms ≤ R.slots)
    (kr : ∀ (v : Option Value) (w' : va_W) (H1 : Heap) (locs1 : List Loc), post (.inl v) w' → Wd G A s.heap (wb_put ws is w') H1 locs1 → W p l e R s m args below meth c H1 locs1 (cells + mc) (slots + ms) Q (F0 m (pc + 3) ls (v.toList ++ rest)))
    (kt : ∀ (X : String) (a : Nat) (cell : Cell) (w' : va_W) (H1 : Heap) (locs1 : List Loc), post (.inr X) w' → Wd G A s.heap (wb_put ws is w') H1 locs1 → H1[a]? = some cell → cell.vm.isStatics = false → s.vm.findClass X = some cell.cls → WT p l e R s m args below meth c H1 locs1 (cells + mc) (slots + ms) Q (F0 m pc ls rest) a)
    (T : State) (hT : T.heap = H) (Z : Stand p l e R s m args below meth c T locs cells slots) : ∃ t, Steps p.tables e below (doInvoke e (T.setTop (F0 m pc ls rest)) [] mk av.toArray).1 t ∧ Q t := by
  have hPre : PX G V av wc H.size av.toArray (T.calling (F0 m pc ls rest) mk av.toArray) := PX.blind _ _ _ _ (CtX.pre hW hK hE hA is hn hC T hT Z.warmed)
  obtain ⟨o, t, L, st, hend, ⟨⟨ot, w', hio, hp, hP1, hD1⟩, hz, hk⟩, ⟨hWm, hsame⟩, hL⟩ := MetX.come Z (hM H.size) hH hgd hhd hts hini (g := F0 m pc ls rest) rfl hsz (by rw [hb]; exact hdg) hnm av.toArray hfr (by show 2 * 0 + (rest.map fun v => v.category).sum + (mL + 11) + rm.locals ≤ R.locals; omega) (by rw [hrc]; exact hcs) (by rw [hrs]; exact hss) hPre
  have hh : (T.calling (F0 m pc ls rest) mk av.toArray).heap = H := hT
  rw [hh] at hz hk
  have hFc := hW.free hA is hC
  have hj := wb_join (H1 := t.heap) hW.1 hW.2.1 is hC (hlen _ _ hp) hk hFc hP1 hD1
  have hS := hW.2.2
  have hWd : Wd G A s.heap (wb_put ws is w') t.heap (locs ++ L) := ⟨hj.1, hj.2, Nat.le_trans hS.1 hz, fun q h1 h2 => by rw [hk q (Nat.lt_of_lt_of_le h1 hS.1) (fun z => h2 (hFc q z))]; exact hS.2.1 q h1 h2, fun q hq => by
    rcases List.mem_append.mp hq with h | h
    · exact hS.2.2 q h
    · exact hFc _ (hL q h)⟩
  cases ot with
  | inl v =>
    have hio : o = .returned v := hio
    subst hio
    obtain ⟨T', Z', -, -, ht⟩ := Z.outOf (g := F0 m pc ls rest) rfl (by rw [hb]; exact hdg) hend hWm hsame
    have hheap : T'.heap = t.heap := by rw [ht]; rfl
    obtain ⟨t2, a1, b1⟩ := kr v w' t.heap (locs ++ L) hp hWd T' hheap Z'
    refine ⟨t2, st.trans ?_, b1⟩
    rw [ht]
    exact a1
  | inr X =>
    obtain ⟨a, cell, e1, e2, e3, e4⟩ := hio
    subst e1
    obtain ⟨T', Z', -, -, ht⟩ := Z.outOfThrown (g := F0 m pc ls rest) rfl hend hWm hsame
    have hheap : T'.heap = t.heap := by rw [ht]; rfl
    have e4' : T.vm.findClass X = some cell.cls := e4
    rw [Z.warmed.alike.findClass] at e4'
    obtain ⟨t2, a1, b1⟩ := kt X a cell w' t.heap (locs ++ L) hp hWd e2 e3 e4' T' hheap Z'
    refine ⟨t2, st.trans ?_, b1⟩
    rw [ht]
    exact a1
theorem CtX.callV {y : MethodName} {rm : Room} {bc : ByteArray} {mL nL n index : Nat} {ret : Option FieldType} {own C : String} {b : Nat} {As : List Value} (hx : p.tables.exec = Jvm.exec) (hb : c.code = cc) (hml : c.maxLocals = nL) (hown : s.vm.findClass own = some m.cls) (hts : ∀ w ∈ wsA, w.before args s = true) (hK : KX G s) (hE : EX V A s s.heap) (hA : ∀ q, s.heap.size ≤ q → A q) (hsz : ls.size = nL) (hW : Wd G A s.heap ws H locs)
    (hM : CtX l G V y (.code y bc mL ret) rm (.ref b :: As) wc mc ms post) (h1 : Cond.methodLink own index y ∈ wsA) (h2 : Cond.instanceMethod y ∈ wsA) (h3 : Cond.selects C y y ∈ wsA) (h4 : Cond.initialized y.cls ∈ wsA) (h5 : Cond.code y bc mL ret ∈ wsA) (hy : y.cls ≠ "java/lang/invoke/MethodHandle" ∧ y.cls ≠ "java/lang/invoke/VarHandle" ∧ (parseMethodDescriptor y.desc).map (fun d => d.parameters.length) = some n)
    (is : List Nat) (hn : va_nd is = true) (hC : is.map (fun i => ws[i]?) = wc.map some) {ci : Nat} {r : vw_C} {fs : List Value} (hci : vcl[ci]? = some r) (hrcl : r.1 = C) (h0 : wc[0]? = some (b, .inr (ci, fs)))
    (hAs : As.length = n) (hst : st0 = As.reverse ++ .ref b :: rest) (hroom : (rest.map fun v => v.category).sum ≤ 8) (hdg : decode cc pc = .ok (.invokevirtual index, 3)) (hfr : rm.frames + 1 ≤ R.frames) (hlo : 8 + (mL + 11) + rm.locals ≤ R.locals) (hrc : rm.cells = mc) (hrs : rm.slots = ms) (hf : cells + mc ≤ R.cells ∧ slots + ms ≤ R.slots) (hlen : ∀ o w', post o w' → wc.length ≤ w'.length)
    (kr : ∀ (v : Option Value) (w' : va_W) (H1 : Heap) (locs1 : List Loc), post (.inl v) w' → Wd G A s.heap (wb_put ws is w') H1 locs1 → W p l e R s m args below meth c H1 locs1 (cells + mc) (slots + ms) Q (F0 m (pc + 3) ls (v.toList ++ rest)))
    (kt : ∀ (X : String) (a : Nat) (cell : Cell) (w' : va_W) (H1 : Heap) (locs1 : List Loc), post (.inr X) w' → Wd G A s.heap (wb_put ws is w') H1 locs1 → H1[a]? = some cell → cell.vm.isStatics = false → s.vm.findClass X = some cell.cls → WT p l e R s m args below meth c H1 locs1 (cells + mc) (slots + ms) Q (F0 m pc ls rest) a) : W p l e R s m args below meth c H locs cells slots Q (F0 m pc ls st0) := by
  intro T hT Z
  obtain ⟨m1, m2, m3⟩ := wb_maps hC
  obtain ⟨i, -, hi⟩ := m2 0 _ h0
  obtain ⟨cellB, hcB, hoB, hclB⟩ := va_recv hK.1 hW.1 hci hi
  rw [hrcl] at hclB
  obtain ⟨mk, methM, hnamed, hmethM, hstM, habM⟩ := Cond.instanceMethod_spec (hts _ h2)
  obtain ⟨methM', cM, hmethM', -, -, -, -, -, -, hsigM⟩ := Cond.code_spec hnamed (hts _ h5)
  cases hmethM.symm.trans hmethM'
  obtain ⟨c2, r2, m2', q1, q2, q3, q4, kP, hkP, hkPi⟩ := Cond.selects_spec (hts _ h3)
  cases hclB.symm.trans q1
  cases (State.methodFound?_of_named hnamed ⟨hy.1, hy.2.1⟩).symm.trans q2
  cases hnamed.symm.trans q3
  have hselP : selectMethod e.platform s.vm cellB.cls mk = .method mk := by rw [Launch.admits_selectMethod Z.admits]; exact q4
  have hlenA : As.length = methM.sig.parameters.length := by
    have := hy.2.2
    rw [hsigM] at this
    exact hAs.trans (Option.some.inj this).symm
  obtain ⟨vm₁, Z1, hstep⟩ := Z.invokevirtual hx hown (hts _ h1) hnamed hmethM hstM hkP hkPi ⟨hy.1, hy.2.1⟩ (a := b) (cell := cellB) (by rw [hT]; exact hcB)
    (fun z h => by rw [h] at hoB; cases hoB) hselP hmethM habM hkP hkPi (g := F0 m pc ls st0) rfl (argsL := As) (rest := rest) hlenA hst (by rw [hb]; exact hdg)
  obtain ⟨t, a1, b1⟩ := CtX.back hM HdOf.code rfl (hts _ h5) hts (hts _ h4) hb hW hK hE hA is hn hC hlen (hsz.trans hml.symm) hdg hnamed hroom hfr hlo hrc hrs hf.1 hf.2 kr kt (T.setVm vm₁) hT Z1
  exact ⟨t, hstep _ fun acts => by rw [doInvoke_state]; exact a1, b1⟩
theorem CtX.callS {y : MethodName} {hd : Cond} {hs : List (Nat × Nat × Nat × Nat)} {rm : Room} {bc : ByteArray} {mL nL n index : Nat} {ret : Option FieldType} {own : String} {As : List Value} (hx : p.tables.exec = Jvm.exec) (hb : c.code = cc) (hml : c.maxLocals = nL) (hown : s.vm.findClass own = some m.cls) (hts : ∀ w ∈ wsA, w.before args s = true) (hK : KX G s) (hE : EX V A s s.heap) (hA : ∀ q, s.heap.size ≤ q → A q) (hsz : ls.size = nL) (hW : Wd G A s.heap ws H locs)
    (hM : CtX l G V y hd rm As wc mc ms post) (hH : HdOf y hd bc mL ret hs) (hgd : (hd.onTables && hd.keeps) = true) (h1 : (Cond.methodLink own index y).before args s = true) (h2 : (Cond.static y).before args s = true) (h4 : (Cond.initialized y.cls).before args s = true) (h5 : hd.before args s = true) (hy : y.cls ≠ "java/lang/invoke/MethodHandle" ∧ y.cls ≠ "java/lang/invoke/VarHandle" ∧ (parseMethodDescriptor y.desc).map (fun d => d.parameters.length) = some n)
    (is : List Nat) (hn : va_nd is = true) (hC : is.map (fun i => ws[i]?) = wc.map some)
    (hAs : As.length = n) (hst : st0 = As.reverse ++ rest) (hroom : (rest.map fun v => v.category).sum ≤ 8) (hdg : decode cc pc = .ok (.invokestatic index, 3)) (hfr : rm.frames + 1 ≤ R.frames) (hlo : 8 + (mL + 11) + rm.locals ≤ R.locals) (hrc : rm.cells = mc) (hrs : rm.slots = ms) (hf : cells + mc ≤ R.cells ∧ slots + ms ≤ R.slots) (hlen : ∀ o w', post o w' → wc.length ≤ w'.length)
    (kr : ∀ (v : Option Value) (w' : va_W) (H1 : Heap) (locs1 : List Loc), post (.inl v) w' → Wd G A s.heap (wb_put ws is w') H1 locs1 → W p l e R s m args below meth c H1 locs1 (cells + mc) (slots + ms) Q (F0 m (pc + 3) ls (v.toList ++ rest)))
    (kt : ∀ (X : String) (a : Nat) (cell : Cell) (w' : va_W) (H1 : Heap) (locs1 : List Loc), post (.inr X) w' → Wd G A s.heap (wb_put ws is w') H1 locs1 → H1[a]? = some cell → cell.vm.isStatics = false → s.vm.findClass X = some cell.cls → WT p l e R s m args below meth c H1 locs1 (cells + mc) (slots + ms) Q (F0 m pc ls rest) a) : W p l e R s m args below meth c H locs cells slots Q (F0 m pc ls st0) := by
  intro T hT Z
  obtain ⟨mk, methM, cM, hnamed, hmethM, -, -, -, -, -, -, hsigM⟩ := hH args s h5
  have hstatic : methM.isStatic = true := Cond.static_spec hnamed hmethM h2
  obtain ⟨kP, hkP, -⟩ := className_of_methodNamed hnamed
  have hinitP : kP.init = .initialized := Cond.initialized_spec (findClass_of_methodNamed hnamed) hkP h4
  have hlenA : As.length = methM.sig.parameters.length := by
    have := hy.2.2
    rw [hsigM] at this
    exact hAs.trans (Option.some.inj this).symm
  obtain ⟨vm₁, Z1, hstep⟩ := Z.invokestatic hx hown h1 hnamed hmethM hstatic hkP hinitP ⟨hy.1, hy.2.1⟩ (g := F0 m pc ls st0) rfl (argsL := As) (rest := rest) hlenA hst (by rw [hb]; exact hdg)
  obtain ⟨t, a1, b1⟩ := CtX.back hM hH hgd h5 hts h4 hb hW hK hE hA is hn hC hlen (hsz.trans hml.symm) hdg hnamed hroom hfr hlo hrc hrs hf.1 hf.2 kr kt (T.setVm vm₁) hT Z1
  exact ⟨t, hstep _ fun acts => by rw [doInvoke_state]; exact a1, b1⟩
end CALLX
