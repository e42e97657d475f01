/-! contracts of methods that may throw, or that want the surroundings -/
def FE (first t : State) (L : List Loc) (k n : Nat) : Prop := first.WarmedH t.vm ∧ first.sameButNew ({ t with vm := first.vm } : State) L k n
def MQX (below : List Frame) (Qc : Array Value → State → Outcome → State → Prop) (a : Array Value) (s : State) (mc ms : Nat) (free : Addr → Prop) : State → Prop := fun t =>
  ∃ o, t.status = .running ∧ Ended t below o ∧ Qc a s o t ∧ ∃ L, FE s t L mc ms ∧ ∀ q ∈ L, free q.base
abbrev Ot : Type := Option Value ⊕ String
def isO (st t : State) (oc : Outcome) (o : Ot) : Prop := match o with
  | .inl v => oc = .returned v
  | .inr X => ∃ (a : Nat) (cell : Cell), oc = .threw a ∧ t.heap[a]? = some cell ∧ cell.vm.isStatics = false ∧ st.vm.findClass X = some cell.cls
def QX (G : Gt) (post : Ot → va_W → Prop) (A : Nat → Prop) : Array Value → State → Outcome → State → Prop := fun _ st oc t =>
  (∃ (o : Ot) (w' : va_W), isO st t oc o ∧ post o w' ∧ va_P G.1 vcl w' t.heap ∧ va_D A w') ∧ va_F A st t
def PX (G : Gt) (V : Ev) (av : List Value) (w : va_W) (sz : Nat) : Array Value → State → Prop := va_Pc av (fun U => U.heap.size = sz ∧ va_P G.1 vcl w U.heap ∧ KX G U ∧ va_D (fun _ => True) w ∧ EX V (va_A w sz) U U.heap)
def MetX (l : Launch) (y : MethodName) (hd : Cond) (rm : Room) (Pc : Array Value → State → Prop) (Qc : Array Value → State → Outcome → State → Prop) (mc ms : Nat) (free : Addr → Prop) : Prop :=
  MetFree l y (headSpec (hd :: wsA) rm) Pc (fun _ _ _ _ _ => True) (fun a st o t => Qc a st o t ∧ ∃ L, FE st t L mc ms ∧ ∀ q ∈ L, free q.base)
def CtX (l : Launch) (G : Gt) (V : Ev) (y : MethodName) (hd : Cond) (rm : Room) (av : List Value) (w : va_W) (mc ms : Nat) (post : Ot → va_W → Prop) : Prop :=
  ∀ sz : Nat, MetX l y hd rm (PX G V av w sz) (QX G post (va_A w sz)) mc ms (va_A w sz)
theorem EX.same {V : Ev} {A : Nat → Prop} {u U : State} {H : Heap} (hv : u.vm = U.vm) (h : EX V A u H) : EX V A U H := by
  refine EX.warm (s := u) ?_ h
  rw [← hv]
  exact State.WarmedH.refl u
theorem PX.blind {G : Gt} {V : Ev} {av : List Value} {w : va_W} {sz : Nat} : FrameBlind (PX G V av w sz) := by
  intro a U g mk q
  obtain ⟨q0, q1, qP, qK, qD, qE⟩ := q
  exact ⟨q0, q1, qP, KX.same (U := U) (V := U.calling g mk a) (show U.vm = (U.calling g mk a).vm from rfl) qK, qD, EX.same (u := U) (U := U.calling g mk a) (show U.vm = (U.calling g mk a).vm from rfl) qE⟩
/-- how a head tells the code: bytes, locals, result, handlers -/
def HdOf (y : MethodName) (hd : Cond) (bc : ByteArray) (mL : Nat) (ret : Option FieldType) (hs : List (Nat × Nat × Nat × Nat)) : Prop :=
  ∀ (args : Array Value) (s : State), hd.before args s = true → ∃ (m : MethodId) (meth : Method) (c : Code), s.methodNamed? y = some m ∧ s.vm.method? m = some meth ∧ meth.code = some c ∧ c.code = bc ∧ c.maxLocals = mL ∧ c.exceptionTable.toList = tableOf hs ∧ meth.sig.returnType = ret ∧ meth.locks = false ∧ parseMethodDescriptor y.desc = some meth.sig
theorem HdOf.code {y : MethodName} {bc : ByteArray} {mL : Nat} {ret : Option FieldType} : HdOf y (.code y bc mL ret) bc mL ret [] := by
  intro args s h
  obtain ⟨m, hn⟩ := Cond.code_named h
  obtain ⟨meth, c, h1, h2, h3, h4, h5, h6, h7, h8⟩ := Cond.code_spec hn h
  refine ⟨m, meth, c, hn, h1, h2, h3, h4, ?_, h5, h6, h8⟩
  have h0 : c.exceptionTable.size = 0 := by simpa [Array.isEmpty] using h7
  exact List.eq_nil_of_length_eq_zero (by simpa using h0)
theorem HdOf.codeWith {y : MethodName} {bc : ByteArray} {mL : Nat} {ret : Option FieldType} {hs : List (Nat × Nat × Nat × Nat)} : HdOf y (.codeWith y bc mL ret hs) bc mL ret hs := by
  intro args s h
  obtain ⟨m, meth, c, hn, h1, h2, h3, h4, h5, h6, h7, h8⟩ := Cond.codeWith_spec h
  exact ⟨m, meth, c, hn, h1, h2, h3, h4, by rw [← h5, table_eq], h6, h7, h8⟩
theorem CtX.of {l : Launch} {G : Gt} {V : Ev} {y : MethodName} {hd : Cond} {bc : ByteArray} {mL : Nat} {ret : Option FieldType} {hs : List (Nat × Nat × Nat × Nat)} {rm : Room} {av : List Value} {w : va_W} {mc ms : Nat} {post : Ot → va_W → Prop} (hH : HdOf y hd bc mL ret hs) (hy : plainName y.cls = true) (hlen : (lg_sl av).length ≤ mL)
    (body : ∀ (p : Program) (e : Env) (s : State) (m : MethodId) (args : Array Value) (below : List Frame) (meth : Method) (c : Code) (A : Nat → Prop) (ls : Array Slot) (H : Heap) (locs : List Loc),
      p.tables.exec = Jvm.exec → c.code = bc → c.maxLocals = mL → meth.sig.returnType = ret → meth.locks = false → s.vm.findClass y.cls = some m.cls → (∀ w ∈ wsA, w.before args s = true) → meth.name = y.name → KX G s → (∀ q, s.heap.size ≤ q → A q) →
      lv_has ls mL (lv_args 0 av) → Wd G A s.heap w H locs → EX V A s s.heap → c.exceptionTable.toList = tableOf hs → W p l e rm s m args below meth c H locs 0 0 (MQX below (QX G post A) args s mc ms A) (F0 m 0 ls [])) : CtX l G V y hd rm av w mc ms post := by
  intro sz
  refine MetFree.of_bodyS (code := bc) (maxLocals := mL) (ret := ret) hy ?_ ?_
  · intro args s m h hn
    obtain ⟨m', meth, c, hn', h1, h2, h3, h4, -, h5, h6, -⟩ := hH args s (atoms_spec (ws := hd :: wsA) h _ List.mem_cons_self)
    cases hn.symm.trans hn'
    exact ⟨meth, c, h1, h2, h3, h4, h5, h6⟩
  · intro p e s m args below meth c s₁ B hml hv _
    obtain ⟨rfl, hsz, hP, hK, hD0, hE⟩ := hv
    have hts := atoms_spec (ws := hd :: wsA) B.pre
    subst hsz
    have hD := hD0.self (sz := s.heap.size)
    have hh0 : s₁.heap = s.heap := by rw [B.state]; rfl
    have X := Stand.of_body B
    obtain ⟨m', meth', c', hn', h1, h2, -, -, htab, -, -, -⟩ := hH _ s (hts _ List.mem_cons_self)
    cases B.named.symm.trans hn'
    cases B.method.symm.trans h1
    cases X.code.symm.trans h2
    have K := body p e s m _ below meth c (va_A w s.heap.size) _ s.heap [] B.exec B.bytes hml B.returns B.notSynchronized (findClass_of_methodNamed B.named) (fun w hw => hts w (List.mem_cons_of_mem _ hw)) (name_of_methodNamed B.named B.method).1 hK (fun q h => Or.inr h) (lv_entry av hlen) ⟨hP, hD, va_S.rf⟩ hE htab
    rw [← lg_entry_eq] at K
    obtain ⟨t, a1, o, b1, b2, b3⟩ := K s₁ hh0 X
    exact ⟨t, o, a1, b1, b2, ⟨b3.1, b3.2⟩⟩
section CX
variable {p : Program} {l : Launch} {e : Env} {R : Room} {s : State} {m : MethodId} {args : Array Value} {below : List Frame} {meth : Method} {c : Code} {H : Heap} {locs : List Loc} {cells slots : Nat} {Q Q' : State → Prop}
variable {cc : ByteArray} {pc : Nat} {ls : Array Slot} {rest st0 : List Value} {G : Gt} {V : Ev} {A : Nat → Prop} {ws wc w' : va_W} {mc ms : Nat} {post : Ot → va_W → Prop}
theorem W.monoQ {g : JFrame} (h : ∀ t, Q t → Q' t) (k : W p l e R s m args below meth c H locs cells slots Q g) : W p l e R s m args below meth c H locs cells slots Q' g := by
  intro T hT X
  obtain ⟨t, a, b⟩ := k T hT X
  exact ⟨t, a, h t b⟩
theorem MQX.of (t : State) (h : MQ below (Qcc G (fun v w' => post (.inl v) w') A) args s mc ms A t) : MQX below (QX G post A) args s mc ms A t := by
  obtain ⟨o, h1, h2, ⟨⟨v, w', hv, hp, hP, hD⟩, hF⟩, L, ⟨-, f2, f3⟩, hL⟩ := h
  exact ⟨o, h1, h2, ⟨⟨.inl v, w', hv, hp, hP, hD⟩, hF⟩, L, ⟨f2, f3⟩, hL⟩
theorem CtX.vret (hx : p.tables.exec = Jvm.exec) (hb : c.code = cc) (hr : meth.sig.returnType = none) (hnl : meth.locks = false) (hW : Wd G A s.heap w' H locs) (hc : cells ≤ mc) (hs : slots ≤ ms) (hdg : decode cc pc = .ok (.return_, 1)) (hp : post (.inl none) w') :
    W p l e R s m args below meth c H locs cells slots (MQX below (QX G post A) args s mc ms A) (F0 m pc ls []) := W.monoQ MQX.of (Ct.vret hx hb hr hnl hW hc hs hdg hp)
theorem CtX.iret {v : Int32} (hx : p.tables.exec = Jvm.exec) (hb : c.code = cc) (hr : meth.sig.returnType = some .int) (hnl : meth.locks = false) (hW : Wd G A s.heap w' H locs) (hc : cells ≤ mc) (hs : slots ≤ ms) (hdg : decode cc pc = .ok (.ireturn, 1)) (hp : post (.inl (some (.int v))) w') :
    W p l e R s m args below meth c H locs cells slots (MQX below (QX G post A) args s mc ms A) (F0 m pc ls [.int v]) := W.monoQ MQX.of (Ct.iret hx hb hr hnl hW hc hs hdg hp)
theorem CtX.zret {v : Int32} (hx : p.tables.exec = Jvm.exec) (hb : c.code = cc) (hr : meth.sig.returnType = some .boolean) (hnl : meth.locks = false) (hW : Wd G A s.heap w' H locs) (hc : cells ≤ mc) (hs : slots ≤ ms) (hdg : decode cc pc = .ok (.ireturn, 1)) (hn : narrow .boolean (.int v) = .int v) (hp : post (.inl (some (.int v))) w') :
    W p l e R s m args below meth c H locs cells slots (MQX below (QX G post A) args s mc ms A) (F0 m pc ls [.int v]) := W.monoQ MQX.of (Ct.zret hx hb hr hnl hW hc hs hdg hn hp)
theorem CtX.throw (hx : p.tables.exec = Jvm.exec) (hb : c.code = cc) {nL : Nat} (hml : c.maxLocals = nL) (hsz : ls.size = nL) (hnl : meth.locks = false) (htab : c.exceptionTable.toList = tableOf []) (hfl : l.flags = flags0) (hown : s.vm.findClass "ThreeClerks" = some m.cls) (hts : ∀ w ∈ wsA, w.before args s = true)
    (hA : ∀ q, s.heap.size ≤ q → A q) (hW : Wd G A s.heap w' H locs) (hE : EX V A s s.heap) {ix ic i : Nat} {X : String} (hin : (ic, X) ∈ exL) (hfit : Bundle.fit X = true) (hcl : Cond.classLink "ThreeClerks" ix X ∈ wsA) (hini : Cond.initialized X ∈ wsA) (hi : i < 9) (hso : sOwn i = "ThreeClerks")
    (d0 : decode cc pc = .ok (.new ix, 3)) (d1 : decode cc (pc + 3) = .ok (.dup, 1)) (d2 : decode cc (pc + 4) = .ok (.ldc (sIdx i), 2)) (d3 : decode cc (pc + 6) = .ok (.invokespecial ic, 3)) (d4 : decode cc (pc + 9) = .ok (.athrow, 1))
    (hc : cells + 1 ≤ mc) (hs : slots + 6 ≤ ms) (hRc : cells + 1 ≤ R.cells) (hRs : slots + 6 ≤ R.slots) (hRf : 5 < R.frames) (hRl : 82 ≤ R.locals) (hp : post (.inr X) w') :
    W p l e R s m args below meth c H locs cells slots (MQX below (QX G post A) args s mc ms A) (F0 m pc ls []) := by
  intro T hT Z
  have Z' := Stand.rebase Z (by omega) (by omega)
  have htr : e.platform.stackTraces = false := Launch.traces_off hfl Z.admits
  have hWm : s.WarmedH (T.setFrames (.invoking m args :: below)).vm := Z.warmed
  have hE' : EX V A (T.setFrames (.invoking m args :: below)) (T.setFrames (.invoking m args :: below)).heap := hE.at hW.2.2 (fun q h => h) hT hWm
  have hts' : ∀ w ∈ wsA, w.before args (T.setFrames (.invoking m args :: below)) = true := fun w hw => word_at hWm (good_A w hw) (hts w hw)
  have hown' : (T.setFrames (.invoking m args :: below)).vm.findClass "ThreeClerks" = some m.cls := by rw [hWm.alike.findClass]; exact hown
  have hown2 := hE'.own hin args
  obtain ⟨vm₁, cX, kX, hfX, hkX, -, -, Z1, st1⟩ := Z'.newCold hx (own := "ThreeClerks") (C := X) (index := ix) (n := 6) hown' (hts' _ hcl) (hown2 _ (by simp [Bundle.ownAtoms])) (hts' _ hini) (g := F0 m pc ls []) rfl (by rw [hb]; exact d0) (by show 0 + 1 ≤ R.cells - cells; omega) (by show 0 + 6 ≤ R.slots - slots; omega)
  have hcellA : ((T.setVm vm₁).pushCell { cls := cX, slots := kX.instanceTypes.map defaultValue, vm := .none }).heap[T.heap.size]? = some (freshCell cX kX) := State.heap_pushCell_size _ _
  have K : W p l e { R with cells := R.cells - cells, slots := R.slots - slots } (T.setFrames (.invoking m args :: below)) m args below meth c ((T.setVm vm₁).pushCell { cls := cX, slots := kX.instanceTypes.map defaultValue, vm := .none }).heap [] (0 + 1) (0 + 6) (MQX below (QX G post A) args s mc ms A) (F0 m (pc + 3) ls [.ref T.heap.size]) := by
    refine lv_dup hx hb d1 rfl ?_
    refine va_ldcS hx hb (own := "ThreeClerks") hown' (hso ▸ hE'.2.1 i hi) d2 ?_
    intro T2 hT2 Z2
    obtain ⟨U, st, hrun, hend, hWU, hsame, ce, hce, O⟩ := Z2.ctorThrowS hx htr (own := "ThreeClerks") (cls := X) (names := tUp) (ic := ic) hown' hfit (by decide +kernel) hown2 (fun _ h => by cases h) hfX hkX (a := T.heap.size) (by rw [hT2]; exact hcellA) (Nat.le_refl _) (msg := .ref (V.1 i)) rfl
      (g := F0 m (pc + 6) ls [.ref (V.1 i), .ref T.heap.size, .ref T.heap.size]) rfl (hsz.trans hml.symm) rfl rfl (rest := []) rfl (by rw [hb]; exact d3) (by rw [hb]; exact d4) (by rw [htab]; intro x h; cases h) hRf (by show 2 * 0 + (1 + 0) + (13 * 3 + 42) ≤ R.locals; omega) hnl
    have hkeep : ∀ q : Nat, q < T.heap.size → U.heap[q]? = T.heap[q]? := fun q hq => same_keeps hsame q hq
    have hsz2 : T.heap.size ≤ U.heap.size := hsame.2.1
    have hs2 : T.sameButNew (U.setVm T.vm) [] (0 + 1) (0 + 6) := by
      obtain ⟨z1, z2⟩ := hsame
      refine ⟨?_, z2⟩
      have z1 : ({ U with vm := T.vm } : State) = { (T.setFrames (.invoking m args :: below)).setFrames U.frames with heap := U.heap, slotsUsed := U.slotsUsed } := z1
      rw [State.setFrames_setFrames] at z1
      exact z1
    have hs3 := (Z.same.trans (hs2.setVm s.vm)).mono (show cells + (0 + 1) ≤ mc by omega) (show slots + (0 + 6) ≤ ms by omega)
    have hP' : va_P G.1 vcl w' U.heap := fun k q hq => (hW.1 k q hq).kept (by
      have hl := (hW.1 k q hq).lt
      rw [← hT] at hl ⊢
      exact hkeep q.1 hl)
    refine ⟨U, st, .threw T.heap.size, hrun, hend, ⟨⟨.inr X, w', ⟨T.heap.size, ce, rfl, hce, by rw [O.vm]; rfl, ?_⟩, hp, hP', hW.2.1⟩, ?_⟩, locs ++ [], ⟨State.WarmedH.trans Z.warmed hWU, hs3⟩, ?_⟩
    · rw [← hWm.alike.findClass]
      exact O.cls
    · refine ⟨?_, fun q h1 h2 => ?_⟩
      · have := hW.2.2.1
        rw [← hT] at this
        omega
      · have h3 := hW.2.2.1
        rw [← hT] at h3
        rw [hkeep q (by omega), hT]
        exact hW.2.2.2.1 q h1 h2
    · intro q hq
      rw [List.append_nil] at hq
      exact hW.2.2.2.2 q hq
  obtain ⟨t, a1, b1⟩ := K _ rfl Z1
  exact ⟨t, st1 t a1, b1⟩
end CX
