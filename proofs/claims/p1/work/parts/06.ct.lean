/-! contracts of one form: arguments, the cells in, what comes out -/
def Wd (G : Gt) (A : Nat → Prop) (H0 : Heap) (w : va_W) (H : Heap) (locs : List Loc) : Prop := va_P G.1 vcl w H ∧ va_D A w ∧ va_S A H0 H locs
def Qcc (G : Gt) (post : Option Value → va_W → Prop) (A : Nat → Prop) : Array Value → State → Outcome → State → Prop := fun _ st oc t =>
  (∃ (v : Option Value) (w' : va_W), oc = .returned v ∧ post v w' ∧ va_P G.1 vcl w' t.heap ∧ va_D A w') ∧ va_F A st t
def Pcc (G : Gt) (av : List Value) (w : va_W) (sz : Nat) : Array Value → State → Prop := va_Pc av (fun U => U.heap.size = sz ∧ va_P G.1 vcl w U.heap ∧ KX G U ∧ va_D (fun _ => True) w)
def Ct (l : Launch) (G : Gt) (y : MethodName) (bc : ByteArray) (mL : Nat) (ret : Option FieldType) (rm : Room) (av : List Value) (w : va_W) (mc ms : Nat) (post : Option Value → va_W → Prop) : Prop :=
  ∀ sz : Nat, Met l y (Cond.code y bc mL ret :: wsA) rm (Pcc G av w sz) (Qcc G post (va_A w sz)) mc ms (va_A w sz)
theorem Pcc.blind {G : Gt} {av : List Value} {w : va_W} {sz : Nat} : FrameBlind (Pcc G av w sz) := by
  intro a U g mk q
  obtain ⟨q0, q1, qP, qK, qD⟩ := q
  exact ⟨q0, q1, qP, KX.same (U := U) (V := U.calling g mk a) (show U.vm = (U.calling g mk a).vm from rfl) qK, qD⟩
theorem Ct.of {l : Launch} {G : Gt} {y : MethodName} {bc : ByteArray} {mL : Nat} {ret : Option FieldType} {rm : Room} {av : List Value} {w : va_W} {mc ms : Nat} {post : Option Value → va_W → Prop} (hy : plainName y.cls = true) (hlen : (lg_sl av).length ≤ mL)
    (body : ∀ (p : Program) (e : Env) (s : State) (m : MethodId) (args : Array Value) (below : List Frame) (meth : Method) (c : Code) (A : Nat → Prop) (ls : Array Slot) (H : Heap) (locs : List Loc),
      p.tables.exec = Jvm.exec → c.code = bc → c.maxLocals = mL → meth.sig.returnType = ret → meth.locks = false → s.vm.findClass y.cls = some m.cls → (∀ w ∈ wsA, w.before args s = true) → meth.name = y.name → KX G s → (∀ q, s.heap.size ≤ q → A q) →
      lv_has ls mL (lv_args 0 av) → Wd G A s.heap w H locs → W p l e rm s m args below meth c H locs 0 0 (MQ below (Qcc G post A) args s mc ms A) (F0 m 0 ls [])) : Ct l G y bc mL ret rm av w mc ms post := by
  intro sz
  refine Met.ofW (cc := bc) (maxL := mL) (ret := ret) hy rfl ?_
  intro p e s m args below meth c s₁ B hml hv
  obtain ⟨rfl, hsz, hP, hK, hD0⟩ := hv
  have hts := atoms_spec (ws := Cond.code y bc mL ret :: wsA) B.pre
  subst hsz
  have hD := hD0.self (sz := s.heap.size)
  rw [lg_entry_eq]
  exact body p e s m _ below meth c (va_A w s.heap.size) _ s.heap [] B.exec B.bytes hml B.returns B.notSynchronized (findClass_of_methodNamed B.named) (fun w hw => hts w (List.mem_cons_of_mem _ hw)) (name_of_methodNamed B.named B.method).1 hK (fun q h => Or.inr h) (lv_entry av hlen) ⟨hP, hD, va_S.rf⟩
section CT
variable {p : Program} {l : Launch} {e : Env} {R : Room} {s : State} {m : MethodId} {args : Array Value} {below : List Frame} {meth : Method} {c : Code} {H : Heap} {locs : List Loc} {cells slots : Nat} {Q : State → Prop}
variable {cc : ByteArray} {pc : Nat} {ls : Array Slot} {rest st0 : List Value} {G : Gt} {A : Nat → Prop} {ws wc w' : va_W} {mc ms : Nat} {post : Option Value → va_W → Prop}
theorem Ct.vret (hx : p.tables.exec = Jvm.exec) (hb : c.code = cc) (hr : meth.sig.returnType = none) (hnl : meth.locks = false) (hW : Wd G A s.heap w' H locs) (hc : cells ≤ mc) (hs : slots ≤ ms) (hdg : decode cc pc = .ok (.return_, 1)) (hp : post none w') :
    W p l e R s m args below meth c H locs cells slots (MQ below (Qcc G post A) args s mc ms A) (F0 m pc ls []) :=
  W.widen hc hs (W.vret hx hb hr (fun _ ht _ => ⟨⟨none, w', rfl, hp, by rw [ht]; exact hW.1, hW.2.1⟩, hW.2.2.F ht⟩) hW.2.2.2.2 hdg hnl)
theorem Ct.iret {v : Int32} (hx : p.tables.exec = Jvm.exec) (hb : c.code = cc) (hr : meth.sig.returnType = some .int) (hnl : meth.locks = false) (hW : Wd G A s.heap w' H locs) (hc : cells ≤ mc) (hs : slots ≤ ms) (hdg : decode cc pc = .ok (.ireturn, 1)) (hp : post (some (.int v)) w') :
    W p l e R s m args below meth c H locs cells slots (MQ below (Qcc G post A) args s mc ms A) (F0 m pc ls [.int v]) :=
  W.widen hc hs (W.iret hx hb hr (fun _ ht _ => ⟨⟨some (.int v), w', rfl, hp, by rw [ht]; exact hW.1, hW.2.1⟩, hW.2.2.F ht⟩) hW.2.2.2.2 hdg hnl)
theorem Ct.zret {v : Int32} (hx : p.tables.exec = Jvm.exec) (hb : c.code = cc) (hr : meth.sig.returnType = some .boolean) (hnl : meth.locks = false) (hW : Wd G A s.heap w' H locs) (hc : cells ≤ mc) (hs : slots ≤ ms) (hdg : decode cc pc = .ok (.ireturn, 1)) (hn : narrow .boolean (.int v) = .int v) (hp : post (some (.int v)) w') :
    W p l e R s m args below meth c H locs cells slots (MQ below (Qcc G post A) args s mc ms A) (F0 m pc ls [.int v]) :=
  W.widen hc hs (W.zret hx hb hr hn (fun _ ht _ => ⟨⟨some (.int v), w', rfl, hp, by rw [ht]; exact hW.1, hW.2.1⟩, hW.2.2.F ht⟩) hW.2.2.2.2 hdg hnl)
theorem Ct.lret {v : Int64} (hx : p.tables.exec = Jvm.exec) (hb : c.code = cc) (hr : meth.sig.returnType = some .long) (hnl : meth.locks = false) (hW : Wd G A s.heap w' H locs) (hc : cells ≤ mc) (hs : slots ≤ ms) (hdg : decode cc pc = .ok (.lreturn, 1)) (hp : post (some (.long v)) w') :
    W p l e R s m args below meth c H locs cells slots (MQ below (Qcc G post A) args s mc ms A) (F0 m pc ls [.long v]) :=
  W.widen hc hs (W.lret hx hb hr (fun _ ht _ => ⟨⟨some (.long v), w', rfl, hp, by rw [ht]; exact hW.1, hW.2.1⟩, hW.2.2.F ht⟩) hW.2.2.2.2 hdg hnl)
theorem Ct.aret {a : Nat} {C : String} (hx : p.tables.exec = Jvm.exec) (hb : c.code = cc) (hr : meth.sig.returnType = some (.object C)) (hnl : meth.locks = false) (hW : Wd G A s.heap w' H locs) (hc : cells ≤ mc) (hs : slots ≤ ms) (hdg : decode cc pc = .ok (.areturn, 1)) (hp : post (some (.ref a)) w') :
    W p l e R s m args below meth c H locs cells slots (MQ below (Qcc G post A) args s mc ms A) (F0 m pc ls [.ref a]) :=
  W.widen hc hs (W.aret hx hb hr (Or.inl ⟨C, rfl⟩) (Or.inr ⟨a, rfl⟩) (fun _ ht _ => ⟨⟨some (.ref a), w', rfl, hp, by rw [ht]; exact hW.1, hW.2.1⟩, hW.2.2.F ht⟩) hW.2.2.2.2 hdg hnl)
theorem Wd.free (hW : Wd G A s.heap ws H locs) (hA : ∀ q, s.heap.size ≤ q → A q) (is : List Nat) (hC : is.map (fun i => ws[i]?) = wc.map some) : ∀ q, va_A wc H.size q → A q := va_free hW.2.1 hW.2.2 hA is hC
theorem Ct.cont {a : Array Value} (hr : va_Run p l e R s m args below meth c H locs cells slots mc ms (F0 m pc ls st0) rest (Qcc G post (va_A wc H.size) a) (va_A wc H.size)) (hW : Wd G A s.heap ws H locs) (hA : ∀ q, s.heap.size ≤ q → A q) (is : List Nat) (hC : is.map (fun i => ws[i]?) = wc.map some) (hlen : ∀ v w', post v w' → wc.length ≤ w'.length)
    (kk : ∀ (v : Option Value) (w' : va_W) (H1 : Heap) (locs1 : List Loc), post v w' → Wd G A s.heap (wb_put ws is w') H1 locs1 → W p l e R s m args below meth c H1 locs1 (cells + mc) (slots + ms) Q (F0 m (pc + 3) ls (v.toList ++ rest))) : W p l e R s m args below meth c H locs cells slots Q (F0 m pc ls st0) := by
  intro T hT X
  obtain ⟨v, st₀, t, T', L, h0, X', hL, e1, e2, ⟨⟨v', w', hv, hp, hP1, hD1⟩, hz, hk⟩, st⟩ := hr T hT X
  cases hv
  rw [h0] at hz hk
  have hFc := hW.free hA is hC
  have hj := wb_join (H1 := T'.heap) hW.1 hW.2.1 is hC (hlen _ _ hp) (fun q h1 h2 => by rw [e1]; exact hk q h1 h2) hFc (by rw [e1]; exact hP1) hD1
  have hS := hW.2.2
  obtain ⟨t2, a1, b1⟩ := kk v w' T'.heap (locs ++ L) hp ⟨hj.1, hj.2, Nat.le_trans hS.1 (by rw [e1]; exact hz), fun q h1 h2 => by rw [e1, hk q (Nat.lt_of_lt_of_le h1 hS.1) (fun z => h2 (hFc q z))]; exact hS.2.1 q h1 h2, fun q hq => by
      rcases List.mem_append.mp hq with h | h
      · exact hS.2.2 q h
      · exact hFc _ (hL q h)⟩ T' rfl X'
  exact ⟨t2, st t2 a1, b1⟩
theorem Ct.pre {av : List Value} (hW : Wd G A s.heap ws H locs) (hK : KX G s) (is : List Nat) (hn : va_nd is = true) (hC : is.map (fun i => ws[i]?) = wc.map some) : ∀ U : State, U.heap = H → s.WarmedH U.vm → Pcc G av wc H.size av.toArray U := by
  intro U hU hWm
  obtain ⟨m1, m2, m3⟩ := wb_maps hC
  refine ⟨rfl, by rw [hU], ?_, KX.warm hWm hK, (hW.2.1.sub is hn hC).weaken (fun _ _ _ _ => trivial)⟩
  rw [hU]
  intro k q hq
  obtain ⟨i, -, hi⟩ := m2 k q hq
  exact hW.1 i q hi
variable {y : MethodName} {bc : ByteArray} {mL nL n index : Nat} {ret : Option FieldType} {rm : Room} {own C : String} {b : Nat} {As : List Value}
theorem Ct.callV (hx : p.tables.exec = Jvm.exec) (hb : c.code = cc) (hml : c.maxLocals = nL) (hown : s.vm.findClass own = some m.cls) (hts : ∀ w ∈ wsA, w.before args s = true) (hK : KX G s) (hA : ∀ q, s.heap.size ≤ q → A q) (hsz : ls.size = nL) (hW : Wd G A s.heap ws H locs)
    (hM : Ct l G y bc mL ret rm (.ref b :: As) wc mc ms post) (cw : CallW R s args own C index y bc mL ret (Cond.code y bc mL ret :: wsA) rm mc ms n) (is : List Nat) (hn : va_nd is = true) (hC : is.map (fun i => ws[i]?) = wc.map some) {ci : Nat} {r : vw_C} {fs : List Value} (hci : vcl[ci]? = some r) (hrc : r.1 = C) (h0 : wc[0]? = some (b, .inr (ci, fs)))
    (hAs : As.length = n) (hst : st0 = As.reverse ++ .ref b :: rest) (hroom : (rest.map fun v => v.category).sum ≤ 8) (hdg : decode cc pc = .ok (.invokevirtual index, 3)) (hf : cells + mc ≤ R.cells ∧ slots + ms ≤ R.slots) (hlen : ∀ v w', post v w' → wc.length ≤ w'.length)
    (kk : ∀ (v : Option Value) (w' : va_W) (H1 : Heap) (locs1 : List Loc), post v w' → Wd G A s.heap (wb_put ws is w') H1 locs1 → W p l e R s m args below meth c H1 locs1 (cells + mc) (slots + ms) Q (F0 m (pc + 3) ls (v.toList ++ rest))) : W p l e R s m args below meth c H locs cells slots Q (F0 m pc ls st0) := by
  obtain ⟨m1, m2, m3⟩ := wb_maps hC
  obtain ⟨i, -, hi⟩ := m2 0 _ h0
  have hrv := va_recv hK.1 hW.1 hci hi
  rw [hrc] at hrv
  exact Ct.cont (va_runV ⟨hx, hb, hml, hown, hts⟩ (hM H.size) cw ⟨Pcc.blind, hrv, Ct.pre hW hK is hn hC⟩ rfl hAs hsz hst (lv_room hroom) hdg hf) hW hA is hC hlen kk
theorem Ct.callS (hx : p.tables.exec = Jvm.exec) (hb : c.code = cc) (hml : c.maxLocals = nL) (hown : s.vm.findClass own = some m.cls) (hts : ∀ w ∈ wsA, w.before args s = true) (hK : KX G s) (hA : ∀ q, s.heap.size ≤ q → A q) (hsz : ls.size = nL) (hW : Wd G A s.heap ws H locs)
    (hM : Ct l G y bc mL ret rm As wc mc ms post) (cw : CallB R s args own index y bc mL ret (Cond.code y bc mL ret :: wsA) rm mc ms n ∧ (Cond.static y).before args s = true) (is : List Nat) (hn : va_nd is = true) (hC : is.map (fun i => ws[i]?) = wc.map some)
    (hAs : As.length = n) (hst : st0 = As.reverse ++ rest) (hroom : (rest.map fun v => v.category).sum ≤ 8) (hdg : decode cc pc = .ok (.invokestatic index, 3)) (hf : cells + mc ≤ R.cells ∧ slots + ms ≤ R.slots) (hlen : ∀ v w', post v w' → wc.length ≤ w'.length)
    (kk : ∀ (v : Option Value) (w' : va_W) (H1 : Heap) (locs1 : List Loc), post v w' → Wd G A s.heap (wb_put ws is w') H1 locs1 → W p l e R s m args below meth c H1 locs1 (cells + mc) (slots + ms) Q (F0 m (pc + 3) ls (v.toList ++ rest))) : W p l e R s m args below meth c H locs cells slots Q (F0 m pc ls st0) :=
  Ct.cont (va_runS ⟨hx, hb, hml, hown, hts⟩ (hM H.size) cw ⟨Pcc.blind, Ct.pre hW hK is hn hC⟩ rfl hAs hsz hst (lv_room hroom) hdg hf) hW hA is hC hlen kk
theorem Ct.callI (hx : p.tables.exec = Jvm.exec) (hb : c.code = cc) (hml : c.maxLocals = nL) (hown : s.vm.findClass own = some m.cls) (hts : ∀ w ∈ wsA, w.before args s = true) (hK : KX G s) (hA : ∀ q, s.heap.size ≤ q → A q) (hsz : ls.size = nL) (hW : Wd G A s.heap ws H locs)
    (hM : Ct l G y bc mL none rm (.ref b :: As) wc mc ms post) (cw : CallB R s args own index y bc mL none (Cond.code y bc mL none :: wsA) rm mc ms n ∧ y.name = "<init>" ∧ (Cond.instanceMethod y).before args s = true) (is : List Nat) (hn : va_nd is = true) (hC : is.map (fun i => ws[i]?) = wc.map some)
    (hAs : As.length = n) (hst : st0 = As.reverse ++ .ref b :: rest) (hroom : (rest.map fun v => v.category).sum ≤ 8) (hdg : decode cc pc = .ok (.invokespecial index, 3)) (hf : cells + mc ≤ R.cells ∧ slots + ms ≤ R.slots) (hlen : ∀ v w', post v w' → wc.length ≤ w'.length)
    (kk : ∀ (v : Option Value) (w' : va_W) (H1 : Heap) (locs1 : List Loc), post v w' → Wd G A s.heap (wb_put ws is w') H1 locs1 → W p l e R s m args below meth c H1 locs1 (cells + mc) (slots + ms) Q (F0 m (pc + 3) ls (v.toList ++ rest))) : W p l e R s m args below meth c H locs cells slots Q (F0 m pc ls st0) :=
  Ct.cont (va_runI ⟨hx, hb, hml, hown, hts⟩ (hM H.size) cw ⟨Pcc.blind, Ct.pre hW hK is hn hC⟩ rfl hAs hsz hst (lv_room hroom) hdg hf) hW hA is hC hlen kk
end CT
