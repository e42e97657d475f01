/-! the JDK's own members over the four String constants that are read -/
theorem sx_w {V : Ev} {A : Nat → Prop} {s : State} (hE : EX V A s s.heap) {args : Array Value} (k : Nat) {w : Cond} (h : exC[k]? = some w) (ht : w.onTables = true) : w.before args s = true := va_Nw.use ht (hE.2.2.2.2.2.2 _ (List.mem_of_getElem? h))
theorem CtX.ofF {l : Launch} {G : Gt} {V : Ev} {y : MethodName} {hd : Cond} {bc : ByteArray} {mL : Nat} {ret : Option FieldType} {hs : List (Nat × Nat × Nat × Nat)} {rm : Room} {av : List Value} {w : va_W} {mc ms : Nat} {post : Ot → va_W → Prop} (hH : HdOf y hd bc mL ret hs) (hy : plainFor y = true) (hlen : (lg_sl av).length ≤ mL)
    (body : ∀ (p : Program) (e : Env) (s : State) (m : MethodId) (args : Array Value) (below : List Frame) (meth : Method) (c : Code) (A : Nat → Prop) (ls : Array Slot) (H : Heap) (locs : List Loc),
      p.tables.exec = Jvm.exec → c.code = bc → c.maxLocals = mL → meth.sig.returnType = ret → meth.locks = false → s.vm.findClass y.cls = some m.cls → (∀ w ∈ wsA, w.before args s = true) → meth.name = y.name → KX G s → (∀ q, s.heap.size ≤ q → A q) →
      lv_has ls mL (lv_args 0 av) → Wd G A s.heap w H locs → EX V A s s.heap → c.exceptionTable.toList = tableOf hs → W p l e rm s m args below meth c H locs 0 0 (MQX below (QX G post A) args s mc ms A) (F0 m 0 ls [])) : CtX l G V y hd rm av w mc ms post := by
  intro sz
  refine MetFree.of_bodySF (code := bc) (maxLocals := mL) (ret := ret) hy ?_ ?_
  · intro args s m h hn
    obtain ⟨m', meth, c, hn', h1, h2, h3, h4, -, h5, h6, -⟩ := hH args s (atoms_spec (ws := hd :: wsA) h _ List.mem_cons_self)
    cases hn.symm.trans hn'
    exact ⟨meth, c, h1, h2, h3, h4, h5, h6⟩
  · intro p e s m args below meth c s₁ B hml hv _
    obtain ⟨rfl, hsz, hP, hK, hD0, hE⟩ := hv
    have hts := atoms_spec (ws := hd :: wsA) B.pre
    subst hsz
    have hD := hD0.self (sz := s.heap.size)
    have hh0 : s₁.heap = s.heap := by rw [B.state]; rfl
    have X := Stand.of_body B
    obtain ⟨m', meth', c', hn', h1, h2, -, -, htab, -, -, -⟩ := hH _ s (hts _ List.mem_cons_self)
    cases B.named.symm.trans hn'
    cases B.method.symm.trans h1
    cases X.code.symm.trans h2
    have K := body p e s m _ below meth c (va_A w s.heap.size) _ s.heap [] B.exec B.bytes hml B.returns B.notSynchronized (findClass_of_methodNamed B.named) (fun w hw => hts w (List.mem_cons_of_mem _ hw)) (name_of_methodNamed B.named B.method).1 hK (fun q h => Or.inr h) (lv_entry av hlen) ⟨hP, hD, va_S.rf⟩ hE htab
    rw [← lg_entry_eq] at K
    obtain ⟨t, a1, o, b1, b2, b3⟩ := K s₁ hh0 X
    exact ⟨t, o, a1, b1, b2, ⟨b3.1, b3.2⟩⟩
section CK
variable {p : Program} {l : Launch} {e : Env} {R : Room} {s : State} {m : MethodId} {args : Array Value} {below : List Frame} {meth : Method} {c : Code} {H : Heap} {locs : List Loc} {cells slots : Nat} {Q : State → Prop}
variable {cc : ByteArray} {pc : Nat} {ls : Array Slot} {rest st0 : List Value} {G : Gt} {V : Ev} {A : Nat → Prop} {ws wc w' : va_W} {mc ms : Nat} {post : Ot → va_W → Prop}
theorem CtX.cret {v : Int32} (hx : p.tables.exec = Jvm.exec) (hb : c.code = cc) (hr : meth.sig.returnType = some .char) (hnl : meth.locks = false) (hW : Wd G A s.heap w' H locs) (hc : cells ≤ mc) (hs : slots ≤ ms) (hdg : decode cc pc = .ok (.ireturn, 1)) (hn : narrow .char (.int v) = .int v) (hp : post (.inl (some (.int v))) w') :
    W p l e R s m args below meth c H locs cells slots (MQX below (QX G post A) args s mc ms A) (F0 m pc ls [.int v]) := W.monoQ MQX.of (Ct.cret hx hb hr hnl hW hc hs hdg hn hp)
theorem CtX.bret {v : Int32} (hx : p.tables.exec = Jvm.exec) (hb : c.code = cc) (hr : meth.sig.returnType = some .byte) (hnl : meth.locks = false) (hW : Wd G A s.heap w' H locs) (hc : cells ≤ mc) (hs : slots ≤ ms) (hdg : decode cc pc = .ok (.ireturn, 1)) (hn : narrow .byte (.int v) = .int v) (hp : post (.inl (some (.int v))) w') :
    W p l e R s m args below meth c H locs cells slots (MQX below (QX G post A) args s mc ms A) (F0 m pc ls [.int v]) := W.monoQ (MQX.of (post := post))
  (W.widen hc hs (W.zret hx hb hr hn (fun _ ht _ => ⟨⟨some (.int v), w', rfl, hp, by rw [ht]; exact hW.1, hW.2.1⟩, hW.2.2.F ht⟩) hW.2.2.2.2 hdg hnl))
theorem CtX.callK {y : MethodName} {rm : Room} {bc : ByteArray} {mL nL n index : Nat} {ret : Option FieldType} {own : String} {As : List Value} {i : Nat} (hx : p.tables.exec = Jvm.exec) (hb : c.code = cc) (hml : c.maxLocals = nL) (hown : s.vm.findClass own = some m.cls) (hts : ∀ w ∈ wsA, w.before args s = true) (hK : KX G s) (hE : EX V A s s.heap) (hA : ∀ q, s.heap.size ≤ q → A q) (hsz : ls.size = nL) (hW : Wd G A s.heap ws H locs)
    (hM : CtX l G V y (.code y bc mL ret) rm (.ref (V.1 i) :: As) wc mc ms post) (hi : i < 4) (h1 : (Cond.methodLink own index y).before args s = true) (h2 : (Cond.instanceMethod y).before args s = true) (h3 : (Cond.selects "java/lang/String" y y).before args s = true) (h4 : (Cond.initialized y.cls).before args s = true) (h5 : (Cond.code y bc mL ret).before args s = true) (hy : y.cls ≠ "java/lang/invoke/MethodHandle" ∧ y.cls ≠ "java/lang/invoke/VarHandle" ∧ (parseMethodDescriptor y.desc).map (fun d => d.parameters.length) = some n)
    (is : List Nat) (hn : va_nd is = true) (hC : is.map (fun i => ws[i]?) = wc.map some)
    (hAs : As.length = n) (hst : st0 = As.reverse ++ .ref (V.1 i) :: rest) (hroom : (rest.map fun v => v.category).sum ≤ 8) (hdg : decode cc pc = .ok (.invokevirtual index, 3)) (hfr : rm.frames + 1 ≤ R.frames) (hlo : 8 + (mL + 11) + rm.locals ≤ R.locals) (hrc : rm.cells = mc) (hrs : rm.slots = ms) (hf : cells + mc ≤ R.cells ∧ slots + ms ≤ R.slots) (hlen : ∀ o w', post o w' → wc.length ≤ w'.length)
    (kr : ∀ (v : Option Value) (w' : va_W) (H1 : Heap) (locs1 : List Loc), post (.inl v) w' → Wd G A s.heap (wb_put ws is w') H1 locs1 → W p l e R s m args below meth c H1 locs1 (cells + mc) (slots + ms) Q (F0 m (pc + 3) ls (v.toList ++ rest)))
    (kt : ∀ (X : String) (a : Nat) (cell : Cell) (w' : va_W) (H1 : Heap) (locs1 : List Loc), post (.inr X) w' → Wd G A s.heap (wb_put ws is w') H1 locs1 → H1[a]? = some cell → cell.vm.isStatics = false → s.vm.findClass X = some cell.cls → WT p l e R s m args below meth c H1 locs1 (cells + mc) (slots + ms) Q (F0 m pc ls rest) a) : W p l e R s m args below meth c H locs cells slots Q (F0 m pc ls st0) := by
  intro T hT Z
  obtain ⟨cellB, hcB, hoB, hclB⟩ := vk_recv hE.2.2.1.1 hi hW.2.2
  obtain ⟨mk, methM, hnamed, hmethM, hstM, habM⟩ := Cond.instanceMethod_spec h2
  obtain ⟨methM', cM, hmethM', -, -, -, -, -, -, hsigM⟩ := Cond.code_spec hnamed h5
  cases hmethM.symm.trans hmethM'
  obtain ⟨c2, r2, m2', q1, q2, q3, q4, kP, hkP, hkPi⟩ := Cond.selects_spec h3
  cases hclB.symm.trans q1
  cases (State.methodFound?_of_named hnamed ⟨hy.1, hy.2.1⟩).symm.trans q2
  cases hnamed.symm.trans q3
  have hselP : selectMethod e.platform s.vm cellB.cls mk = .method mk := by rw [Launch.admits_selectMethod Z.admits]; exact q4
  have hlenA : As.length = methM.sig.parameters.length := by
    have := hy.2.2
    rw [hsigM] at this
    exact hAs.trans (Option.some.inj this).symm
  obtain ⟨vm₁, Z1, hstep⟩ := Z.invokevirtual hx hown h1 hnamed hmethM hstM hkP hkPi ⟨hy.1, hy.2.1⟩ (a := V.1 i) (cell := cellB) (by rw [hT]; exact hcB)
    (fun z h => by rw [h] at hoB; cases hoB) hselP hmethM habM hkP hkPi (g := F0 m pc ls st0) rfl (argsL := As) (rest := rest) hlenA hst (by rw [hb]; exact hdg)
  obtain ⟨t, a1, b1⟩ := CtX.back hM HdOf.code rfl h5 hts h4 hb hW hK hE hA is hn hC hlen (hsz.trans hml.symm) hdg hnamed hroom hfr hlo hrc hrs hf.1 hf.2 kr kt (T.setVm vm₁) hT Z1
  exact ⟨t, hstep _ fun acts => by rw [doInvoke_state]; exact a1, b1⟩
end CK
theorem nar_ch {x : Int32} (h : ∃ y : Int32, x = (y.toUInt32 % 65536).toInt32) : narrow .char (.int x) = .int x := by
  obtain ⟨y, rfl⟩ := h
  exact pk_nc y
theorem sh_0 {i : Nat} : nI (sLen.getD i 0) >>> ((0 : Int32) &&& 31) = nI (sLen.getD i 0) := by simp
theorem sl_len {i : Nat} (hi : i < 4) : sLen.getD i 0 ≤ 9 := by
  rcases (show i = 0 ∨ i = 1 ∨ i = 2 ∨ i = 3 by omega) with rfl | rfl | rfl | rfl <;> decide
theorem sl_b {i : Nat} (hi : i < 4) : sLen.getD i 0 < 2 ^ 31 := by have := sl_len hi; omega
theorem sl_0 {i k : Nat} (hi : i < 4) (hk : k < sLen.getD i 0) : ¬ nI k < 0 := by have := sl_len hi; exact nI_pos (by omega)
theorem sl_1 {i k : Nat} (hi : i < 4) (hk : k < sLen.getD i 0) : nI k < nI (sLen.getD i 0) := nI_lt hk (sl_b hi)
def chS (i k : Nat) : Int32 := ((((sByt.getD i []).getD k 0) &&& 255).toUInt32 % 65536).toInt32
theorem sl_n (i k : Nat) : narrow .char (.int (chS i k)) = .int (chS i k) := nar_ch ⟨_, rfl⟩
theorem sl_c {i k : Nat} (hi : i < 4) (hk : k < sLen.getD i 0) : ((((sByt.getD i []).getD (nI k).toNatClampNeg 0) &&& 255).toUInt32 % 65536).toInt32 = chS i k := by
  have := sl_len hi
  rw [nI_clamp (by omega)]
  rfl

theorem d_JString_coder_0 : decode b_JString_coder 0 = .ok (.getstatic 38, 3) := by decide +kernel
theorem d_JString_coder_3 : decode b_JString_coder 3 = .ok (.ifCond .eq 10, 3) := by decide +kernel
theorem d_JString_coder_6 : decode b_JString_coder 6 = .ok (.aload_n 0, 1) := by decide +kernel
theorem d_JString_coder_7 : decode b_JString_coder 7 = .ok (.getfield 15, 3) := by decide +kernel
theorem d_JString_coder_10 : decode b_JString_coder 10 = .ok (.goto 4, 3) := by decide +kernel
theorem d_JString_coder_13 : decode b_JString_coder 13 = .ok (.iconst 1, 1) := by decide +kernel
theorem d_JString_coder_14 : decode b_JString_coder 14 = .ok (.ireturn, 1) := by decide +kernel
abbrev rm__JString_coder : Room := { frames := 0, cells := 0, slots := 0, locals := 0 }
set_option maxHeartbeats 4000000 in
set_option maxRecDepth 100000 in
theorem cx_JString_coder (l : Launch) (G : Gt) (V : Ev) (hfl : l.flags = flags0) (i : Nat) (hi : i < 4) : CtX l G V y_JString_coder (.code y_JString_coder b_JString_coder 1 (some .byte)) rm__JString_coder [.ref (V.1 i)] [] 0 0 (fun o w' => o = .inl (some (.int 0)) ∧ w' = []) := by
  refine CtX.ofF HdOf.code (by decide +kernel) (Nat.le_of_ble_eq_true rfl) (fun p e s m args below meth c A ls H locs hx hb hml hr hnl hown hts hnm hK hA hl hW hE htab => ?_)
  have hl : lv_has ls 1 [(0, .ref (V.1 i))] := hl
  refine va_gets hx hb hE.2.2.2.2.2.1 hW.2.2 hown (sx_w hE 5 rfl rfl) (fun _ h => h) d_JString_coder_0 ?_
  refine lv_if_eq (tgt := 13) hx hb d_JString_coder_3 rfl (fun hz => absurd hz (by decide)) (fun _ => ?_)
  refine lv_aload_n hx hb d_JString_coder_6 rfl (lv_at hl 0 rfl) ?_
  refine vk_getf hx hb (hE.2.2.1.1.1 i hi).2.1 hW.2.2 hown (sx_w hE 4 rfl rfl) (fun _ h => h) d_JString_coder_7 ?_
  refine lv_goto (tgt := 14) hx hb d_JString_coder_10 rfl ?_
  exact CtX.bret hx hb hr hnl hW (by decide) (by decide) d_JString_coder_14 (by decide) ⟨rfl, rfl⟩

theorem d_JString_isLatin1_0 : decode b_JString_isLatin1 0 = .ok (.getstatic 38, 3) := by decide +kernel
theorem d_JString_isLatin1_3 : decode b_JString_isLatin1 3 = .ok (.ifCond .eq 14, 3) := by decide +kernel
theorem d_JString_isLatin1_6 : decode b_JString_isLatin1 6 = .ok (.aload_n 0, 1) := by decide +kernel
theorem d_JString_isLatin1_7 : decode b_JString_isLatin1 7 = .ok (.getfield 15, 3) := by decide +kernel
theorem d_JString_isLatin1_10 : decode b_JString_isLatin1 10 = .ok (.ifCond .ne 7, 3) := by decide +kernel
theorem d_JString_isLatin1_13 : decode b_JString_isLatin1 13 = .ok (.iconst 1, 1) := by decide +kernel
theorem d_JString_isLatin1_14 : decode b_JString_isLatin1 14 = .ok (.goto 4, 3) := by decide +kernel
theorem d_JString_isLatin1_17 : decode b_JString_isLatin1 17 = .ok (.iconst 0, 1) := by decide +kernel
theorem d_JString_isLatin1_18 : decode b_JString_isLatin1 18 = .ok (.ireturn, 1) := by decide +kernel
abbrev rm__JString_isLatin1 : Room := { frames := 0, cells := 0, slots := 0, locals := 0 }
set_option maxHeartbeats 4000000 in
set_option maxRecDepth 100000 in
theorem cx_JString_isLatin1 (l : Launch) (G : Gt) (V : Ev) (hfl : l.flags = flags0) (i : Nat) (hi : i < 4) : CtX l G V y_JString_isLatin1 (.code y_JString_isLatin1 b_JString_isLatin1 1 (some .boolean)) rm__JString_isLatin1 [.ref (V.1 i)] [] 0 0 (fun o w' => o = .inl (some (.int 1)) ∧ w' = []) := by
  refine CtX.ofF HdOf.code (by decide +kernel) (Nat.le_of_ble_eq_true rfl) (fun p e s m args below meth c A ls H locs hx hb hml hr hnl hown hts hnm hK hA hl hW hE htab => ?_)
  have hl : lv_has ls 1 [(0, .ref (V.1 i))] := hl
  refine va_gets hx hb hE.2.2.2.2.2.1 hW.2.2 hown (sx_w hE 5 rfl rfl) (fun _ h => h) d_JString_isLatin1_0 ?_
  refine lv_if_eq (tgt := 17) hx hb d_JString_isLatin1_3 rfl (fun hz => absurd hz (by decide)) (fun _ => ?_)
  refine lv_aload_n hx hb d_JString_isLatin1_6 rfl (lv_at hl 0 rfl) ?_
  refine vk_getf hx hb (hE.2.2.1.1.1 i hi).2.1 hW.2.2 hown (sx_w hE 4 rfl rfl) (fun _ h => h) d_JString_isLatin1_7 ?_
  refine lv_if_ne (tgt := 17) hx hb d_JString_isLatin1_10 rfl (fun hz => absurd (by decide) hz) (fun _ => ?_)
  refine lv_iconst (v := 1) hx hb d_JString_isLatin1_13 (by decide) ?_
  refine lv_goto (tgt := 18) hx hb d_JString_isLatin1_14 rfl ?_
  exact CtX.zret hx hb hr hnl hW (by decide) (by decide) d_JString_isLatin1_18 (by decide) ⟨rfl, rfl⟩

theorem d_JString_length_0 : decode b_JString_length 0 = .ok (.aload_n 0, 1) := by decide +kernel
theorem d_JString_length_1 : decode b_JString_length 1 = .ok (.getfield 9, 3) := by decide +kernel
theorem d_JString_length_4 : decode b_JString_length 4 = .ok (.arraylength, 1) := by decide +kernel
theorem d_JString_length_5 : decode b_JString_length 5 = .ok (.aload_n 0, 1) := by decide +kernel
theorem d_JString_length_6 : decode b_JString_length 6 = .ok (.invokevirtual 335, 3) := by decide +kernel
theorem d_JString_length_9 : decode b_JString_length 9 = .ok (.ishr, 1) := by decide +kernel
theorem d_JString_length_10 : decode b_JString_length 10 = .ok (.ireturn, 1) := by decide +kernel
abbrev rm__JString_length : Room := { frames := 1, cells := 0, slots := 0, locals := 20 }
set_option maxHeartbeats 4000000 in
set_option maxRecDepth 100000 in
theorem cx_JString_length (l : Launch) (G : Gt) (V : Ev) (hfl : l.flags = flags0) (i : Nat) (hi : i < 4) : CtX l G V y_JString_length (.code y_JString_length b_JString_length 1 (some .int)) rm__JString_length [.ref (V.1 i)] [] 0 0 (fun o w' => o = .inl (some (.int (nI (sLen.getD i 0)))) ∧ w' = []) := by
  refine CtX.ofF HdOf.code (by decide +kernel) (Nat.le_of_ble_eq_true rfl) (fun p e s m args below meth c A ls H locs hx hb hml hr hnl hown hts hnm hK hA hl hW hE htab => ?_)
  have hl : lv_has ls 1 [(0, .ref (V.1 i))] := hl
  refine lv_aload_n hx hb d_JString_length_0 rfl (lv_at hl 0 rfl) ?_
  refine vk_getf hx hb (hE.2.2.1.1.1 i hi).2.2.1 hW.2.2 hown (sx_w hE 3 rfl rfl) (fun _ h => h) d_JString_length_1 ?_
  refine va_tlen (v := nI (sLen.getD i 0)) hx hb (hE.2.2.1.1.1 i hi).2.2.2 hW.2.2 rfl d_JString_length_4 ?_
  refine lv_aload_n hx hb d_JString_length_5 rfl (lv_at hl 0 rfl) ?_
  refine CtX.callK (i := i) (As := []) (rest := [.int (nI (sLen.getD i 0))]) hx hb hml hown hts hK hE hA hl.1 hW (cx_JString_coder l G V hfl i (by first | assumption | omega | decide)) hi (sx_w hE 7 rfl rfl) (hts _ w_im_JString_coder) (hts _ w_se_JString_coder) (hts _ w_ini_JString) (hts _ w_code_JString_coder) yd_JString_coder.2 [] (by decide) rfl rfl rfl (Nat.le_of_ble_eq_true rfl) d_JString_length_6 (by decide) (by decide) rfl rfl ⟨by decide, by decide⟩ (fun o w' hp => by rw [hp.2]; exact Nat.le_of_ble_eq_true rfl) (fun v w' H locs hp hW => ?_) (fun X a cell w' H locs hp => absurd hp.1 (fun h => by cases h))
  obtain ⟨hv, rfl⟩ := hp
  cases hv
  have hW : Wd G A s.heap [] H locs := hW
  refine W.eq (g2 := F0 m 9 ls [.int 0, .int (nI (sLen.getD i 0))]) rfl ?_
  refine lv_ishr hx hb d_JString_length_9 ?_
  exact CtX.iret hx hb hr hnl hW (by decide) (by decide) d_JString_length_10 ⟨by rw [sh_0], rfl⟩

theorem d_Pre_checkIndex_0 : decode b_Pre_checkIndex 0 = .ok (.iload_n 0, 1) := by decide +kernel
theorem d_Pre_checkIndex_1 : decode b_Pre_checkIndex 1 = .ok (.ifCond .lt 8, 3) := by decide +kernel
theorem d_Pre_checkIndex_4 : decode b_Pre_checkIndex 4 = .ok (.iload_n 0, 1) := by decide +kernel
theorem d_Pre_checkIndex_5 : decode b_Pre_checkIndex 5 = .ok (.iload_n 1, 1) := by decide +kernel
theorem d_Pre_checkIndex_6 : decode b_Pre_checkIndex 6 = .ok (.if_icmp .lt 10, 3) := by decide +kernel
theorem d_Pre_checkIndex_9 : decode b_Pre_checkIndex 9 = .ok (.aload_n 2, 1) := by decide +kernel
theorem d_Pre_checkIndex_10 : decode b_Pre_checkIndex 10 = .ok (.iload_n 0, 1) := by decide +kernel
theorem d_Pre_checkIndex_11 : decode b_Pre_checkIndex 11 = .ok (.iload_n 1, 1) := by decide +kernel
theorem d_Pre_checkIndex_12 : decode b_Pre_checkIndex 12 = .ok (.invokestatic 95, 3) := by decide +kernel
theorem d_Pre_checkIndex_15 : decode b_Pre_checkIndex 15 = .ok (.athrow, 1) := by decide +kernel
theorem d_Pre_checkIndex_16 : decode b_Pre_checkIndex 16 = .ok (.iload_n 0, 1) := by decide +kernel
theorem d_Pre_checkIndex_17 : decode b_Pre_checkIndex 17 = .ok (.ireturn, 1) := by decide +kernel
abbrev rm__Pre_checkIndex : Room := { frames := 0, cells := 0, slots := 0, locals := 0 }
set_option maxHeartbeats 4000000 in
set_option maxRecDepth 100000 in
theorem cx_Pre_checkIndex (l : Launch) (G : Gt) (V : Ev) (hfl : l.flags = flags0) (x : Int32) (n : Int32) (v8 : Value) (h0 : ¬ x < 0) (h1 : x < n) (r8 : v8.isRef = true) : CtX l G V y_Pre_checkIndex (.code y_Pre_checkIndex b_Pre_checkIndex 3 (some .int)) rm__Pre_checkIndex [.int x, .int n, v8] [] 0 0 (fun o w' => o = .inl (some (.int x)) ∧ w' = []) := by
  refine CtX.ofF HdOf.code (by decide +kernel) (by cases v8 <;> first | exact Nat.le_of_ble_eq_true rfl | cases r8) (fun p e s m args below meth c A ls H locs hx hb hml hr hnl hown hts hnm hK hA hl hW hE htab => ?_)
  have hl : lv_has ls 3 [(0, .int x), (1, .int n), (2, v8)] := hl
  refine lv_iload_n hx hb d_Pre_checkIndex_0 rfl (lv_at hl 0 rfl) ?_
  refine lv_if_lt (tgt := 9) hx hb d_Pre_checkIndex_1 rfl (fun hz => absurd hz h0) (fun _ => ?_)
  refine lv_iload_n hx hb d_Pre_checkIndex_4 rfl (lv_at hl 0 rfl) ?_
  refine lv_iload_n hx hb d_Pre_checkIndex_5 rfl (lv_at hl 1 rfl) ?_
  refine lv_icmp_lt (tgt := 16) hx hb d_Pre_checkIndex_6 rfl (fun _ => ?_) (fun hz => absurd h1 hz)
  refine lv_iload_n hx hb d_Pre_checkIndex_16 rfl (lv_at hl 0 rfl) ?_
  exact CtX.iret hx hb hr hnl hW (by decide) (by decide) d_Pre_checkIndex_17 ⟨rfl, rfl⟩

theorem d_JString_checkIndex_0 : decode b_JString_checkIndex 0 = .ok (.iload_n 0, 1) := by decide +kernel
theorem d_JString_checkIndex_1 : decode b_JString_checkIndex 1 = .ok (.iload_n 1, 1) := by decide +kernel
theorem d_JString_checkIndex_2 : decode b_JString_checkIndex 2 = .ok (.getstatic 1053, 3) := by decide +kernel
theorem d_JString_checkIndex_5 : decode b_JString_checkIndex 5 = .ok (.invokestatic 1059, 3) := by decide +kernel
theorem d_JString_checkIndex_8 : decode b_JString_checkIndex 8 = .ok (.pop, 1) := by decide +kernel
theorem d_JString_checkIndex_9 : decode b_JString_checkIndex 9 = .ok (.return_, 1) := by decide +kernel
abbrev rm__JString_checkIndex : Room := { frames := 1, cells := 0, slots := 0, locals := 22 }
set_option maxHeartbeats 4000000 in
set_option maxRecDepth 100000 in
theorem cx_JString_checkIndex (l : Launch) (G : Gt) (V : Ev) (hfl : l.flags = flags0) (x : Int32) (n : Int32) (h0 : ¬ x < 0) (h1 : x < n) : CtX l G V y_JString_checkIndex (.code y_JString_checkIndex b_JString_checkIndex 2 none) rm__JString_checkIndex [.int x, .int n] [] 0 0 (fun o w' => o = .inl none ∧ w' = []) := by
  refine CtX.ofF HdOf.code (by decide +kernel) (Nat.le_of_ble_eq_true rfl) (fun p e s m args below meth c A ls H locs hx hb hml hr hnl hown hts hnm hK hA hl hW hE htab => ?_)
  have hl : lv_has ls 2 [(0, .int x), (1, .int n)] := hl
  refine lv_iload_n hx hb d_JString_checkIndex_0 rfl (lv_at hl 0 rfl) ?_
  refine lv_iload_n hx hb d_JString_checkIndex_1 rfl (lv_at hl 1 rfl) ?_
  obtain ⟨v8, r8, z8⟩ := hE.2.2.1.2
  refine va_gets hx hb z8 hW.2.2 hown (sx_w hE 6 rfl rfl) (fun _ h => h) d_JString_checkIndex_2 ?_
  refine CtX.callS (As := [.int x, .int n, v8]) (rest := []) hx hb hml hown hts hK hE hA hl.1 hW (cx_Pre_checkIndex l G V hfl x n v8 (by first | assumption | omega | decide) (by first | assumption | omega | decide) (by first | assumption | omega | decide)) HdOf.code rfl (sx_w hE 13 rfl rfl) (sx_w hE 21 rfl rfl) (sx_w hE 23 rfl rfl) (sx_w hE 22 rfl rfl) yd_Pre_checkIndex.2 [] (by decide) rfl rfl rfl (Nat.le_of_ble_eq_true rfl) d_JString_checkIndex_5 (by decide) (by decide) rfl rfl ⟨by decide, by decide⟩ (fun o w' hp => by rw [hp.2]; exact Nat.le_of_ble_eq_true rfl) (fun v w' H locs hp hW => ?_) (fun X a cell w' H locs hp => absurd hp.1 (fun h => by cases h))
  obtain ⟨hv, rfl⟩ := hp
  cases hv
  have hW : Wd G A s.heap [] H locs := hW
  refine W.eq (g2 := F0 m 8 ls [.int x]) rfl ?_
  refine lv_pop hx hb d_JString_checkIndex_8 rfl ?_
  exact CtX.vret hx hb hr hnl hW (by decide) (by decide) d_JString_checkIndex_9 ⟨rfl, rfl⟩

theorem d_JStringLatin1_charAt_0 : decode b_JStringLatin1_charAt 0 = .ok (.iload_n 1, 1) := by decide +kernel
theorem d_JStringLatin1_charAt_1 : decode b_JStringLatin1_charAt 1 = .ok (.aload_n 0, 1) := by decide +kernel
theorem d_JStringLatin1_charAt_2 : decode b_JStringLatin1_charAt 2 = .ok (.arraylength, 1) := by decide +kernel
theorem d_JStringLatin1_charAt_3 : decode b_JStringLatin1_charAt 3 = .ok (.invokestatic 9, 3) := by decide +kernel
theorem d_JStringLatin1_charAt_6 : decode b_JStringLatin1_charAt 6 = .ok (.aload_n 0, 1) := by decide +kernel
theorem d_JStringLatin1_charAt_7 : decode b_JStringLatin1_charAt 7 = .ok (.iload_n 1, 1) := by decide +kernel
theorem d_JStringLatin1_charAt_8 : decode b_JStringLatin1_charAt 8 = .ok (.baload, 1) := by decide +kernel
theorem d_JStringLatin1_charAt_9 : decode b_JStringLatin1_charAt 9 = .ok (.sipush 255, 3) := by decide +kernel
theorem d_JStringLatin1_charAt_12 : decode b_JStringLatin1_charAt 12 = .ok (.iand, 1) := by decide +kernel
theorem d_JStringLatin1_charAt_13 : decode b_JStringLatin1_charAt 13 = .ok (.i2c, 1) := by decide +kernel
theorem d_JStringLatin1_charAt_14 : decode b_JStringLatin1_charAt 14 = .ok (.ireturn, 1) := by decide +kernel
abbrev rm__JStringLatin1_charAt : Room := { frames := 2, cells := 0, slots := 0, locals := 43 }
set_option maxHeartbeats 4000000 in
set_option maxRecDepth 100000 in
theorem cx_JStringLatin1_charAt (l : Launch) (G : Gt) (V : Ev) (hfl : l.flags = flags0) (i : Nat) (k : Nat) (hi : i < 4) (hk : k < sLen.getD i 0) : CtX l G V y_JStringLatin1_charAt (.code y_JStringLatin1_charAt b_JStringLatin1_charAt 2 (some .char)) rm__JStringLatin1_charAt [.ref (V.2 i), .int (nI k)] [] 0 0 (fun o w' => o = .inl (some (.int (chS i k))) ∧ w' = []) := by
  refine CtX.ofF HdOf.code (by decide +kernel) (Nat.le_of_ble_eq_true rfl) (fun p e s m args below meth c A ls H locs hx hb hml hr hnl hown hts hnm hK hA hl hW hE htab => ?_)
  have hl : lv_has ls 2 [(0, .ref (V.2 i)), (1, .int (nI k))] := hl
  refine lv_iload_n hx hb d_JStringLatin1_charAt_0 rfl (lv_at hl 1 rfl) ?_
  refine lv_aload_n hx hb d_JStringLatin1_charAt_1 rfl (lv_at hl 0 rfl) ?_
  refine va_tlen (v := nI (sLen.getD i 0)) hx hb (hE.2.2.1.1.1 i hi).2.2.2 hW.2.2 rfl d_JStringLatin1_charAt_2 ?_
  refine CtX.callS (As := [.int (nI k), .int (nI (sLen.getD i 0))]) (rest := []) hx hb hml hown hts hK hE hA hl.1 hW (cx_JString_checkIndex l G V hfl (nI k) (nI (sLen.getD i 0)) (sl_0 hi hk) (sl_1 hi hk)) HdOf.code rfl (sx_w hE 14 rfl rfl) (hts _ w_st_JString_checkIndex) (hts _ w_ini_JString) (hts _ w_code_JString_checkIndex) yd_JString_checkIndex.2 [] (by decide) rfl rfl rfl (Nat.le_of_ble_eq_true rfl) d_JStringLatin1_charAt_3 (by decide) (by decide) rfl rfl ⟨by decide, by decide⟩ (fun o w' hp => by rw [hp.2]; exact Nat.le_of_ble_eq_true rfl) (fun v w' H locs hp hW => ?_) (fun X a cell w' H locs hp => absurd hp.1 (fun h => by cases h))
  obtain ⟨hv, rfl⟩ := hp
  cases hv
  have hW : Wd G A s.heap [] H locs := hW
  refine W.eq (g2 := F0 m 6 ls []) rfl ?_
  refine lv_aload_n hx hb d_JStringLatin1_charAt_6 rfl (lv_at hl 0 rfl) ?_
  refine lv_iload_n hx hb d_JStringLatin1_charAt_7 rfl (lv_at hl 1 rfl) ?_
  refine va_tb (v := .int ((sByt.getD i []).getD ((nI k).toNatClampNeg) 0)) hx hb (hE.2.2.1.1.1 i hi).2.2.2 hW.2.2 (vp_in_nI hk (sl_b hi)) rfl d_JStringLatin1_charAt_8 ?_
  refine lv_sipush (v := 255) hx hb d_JStringLatin1_charAt_9 (by decide) ?_
  refine lv_iand hx hb d_JStringLatin1_charAt_12 ?_
  refine lv_i2c (v := ((((sByt.getD i []).getD ((nI k).toNatClampNeg) 0) &&& 255).toUInt32 % 65536).toInt32) hx hb d_JStringLatin1_charAt_13 rfl ?_
  exact CtX.cret hx hb hr hnl hW (by decide) (by decide) d_JStringLatin1_charAt_14 (by exact nar_ch ⟨_, rfl⟩) ⟨by rw [sl_c hi hk], rfl⟩

theorem d_JString_charAt_0 : decode b_JString_charAt 0 = .ok (.aload_n 0, 1) := by decide +kernel
theorem d_JString_charAt_1 : decode b_JString_charAt 1 = .ok (.invokevirtual 492, 3) := by decide +kernel
theorem d_JString_charAt_4 : decode b_JString_charAt 4 = .ok (.ifCond .eq 12, 3) := by decide +kernel
theorem d_JString_charAt_7 : decode b_JString_charAt 7 = .ok (.aload_n 0, 1) := by decide +kernel
theorem d_JString_charAt_8 : decode b_JString_charAt 8 = .ok (.getfield 9, 3) := by decide +kernel
theorem d_JString_charAt_11 : decode b_JString_charAt 11 = .ok (.iload_n 1, 1) := by decide +kernel
theorem d_JString_charAt_12 : decode b_JString_charAt 12 = .ok (.invokestatic 495, 3) := by decide +kernel
theorem d_JString_charAt_15 : decode b_JString_charAt 15 = .ok (.ireturn, 1) := by decide +kernel
theorem d_JString_charAt_16 : decode b_JString_charAt 16 = .ok (.aload_n 0, 1) := by decide +kernel
theorem d_JString_charAt_17 : decode b_JString_charAt 17 = .ok (.getfield 9, 3) := by decide +kernel
theorem d_JString_charAt_20 : decode b_JString_charAt 20 = .ok (.iload_n 1, 1) := by decide +kernel
theorem d_JString_charAt_21 : decode b_JString_charAt 21 = .ok (.invokestatic 498, 3) := by decide +kernel
theorem d_JString_charAt_24 : decode b_JString_charAt 24 = .ok (.ireturn, 1) := by decide +kernel
abbrev rm__JString_charAt : Room := { frames := 3, cells := 0, slots := 0, locals := 64 }
set_option maxHeartbeats 4000000 in
set_option maxRecDepth 100000 in
theorem cx_JString_charAt (l : Launch) (G : Gt) (V : Ev) (hfl : l.flags = flags0) (i : Nat) (k : Nat) (hi : i < 4) (hk : k < sLen.getD i 0) : CtX l G V y_JString_charAt (.code y_JString_charAt b_JString_charAt 2 (some .char)) rm__JString_charAt [.ref (V.1 i), .int (nI k)] [] 0 0 (fun o w' => o = .inl (some (.int (chS i k))) ∧ w' = []) := by
  refine CtX.ofF HdOf.code (by decide +kernel) (Nat.le_of_ble_eq_true rfl) (fun p e s m args below meth c A ls H locs hx hb hml hr hnl hown hts hnm hK hA hl hW hE htab => ?_)
  have hl : lv_has ls 2 [(0, .ref (V.1 i)), (1, .int (nI k))] := hl
  refine lv_aload_n hx hb d_JString_charAt_0 rfl (lv_at hl 0 rfl) ?_
  refine CtX.callK (i := i) (As := []) (rest := []) hx hb hml hown hts hK hE hA hl.1 hW (cx_JString_isLatin1 l G V hfl i (by first | assumption | omega | decide)) hi (sx_w hE 8 rfl rfl) (hts _ w_im_JString_isLatin1) (hts _ w_se_JString_isLatin1) (hts _ w_ini_JString) (hts _ w_code_JString_isLatin1) yd_JString_isLatin1.2 [] (by decide) rfl rfl rfl (Nat.le_of_ble_eq_true rfl) d_JString_charAt_1 (by decide) (by decide) rfl rfl ⟨by decide, by decide⟩ (fun o w' hp => by rw [hp.2]; exact Nat.le_of_ble_eq_true rfl) (fun v w' H locs hp hW => ?_) (fun X a cell w' H locs hp => absurd hp.1 (fun h => by cases h))
  obtain ⟨hv, rfl⟩ := hp
  cases hv
  have hW : Wd G A s.heap [] H locs := hW
  refine W.eq (g2 := F0 m 4 ls [.int 1]) rfl ?_
  refine lv_if_eq (tgt := 16) hx hb d_JString_charAt_4 rfl (fun hz => absurd hz (by decide)) (fun _ => ?_)
  refine lv_aload_n hx hb d_JString_charAt_7 rfl (lv_at hl 0 rfl) ?_
  refine vk_getf hx hb (hE.2.2.1.1.1 i hi).2.2.1 hW.2.2 hown (sx_w hE 3 rfl rfl) (fun _ h => h) d_JString_charAt_8 ?_
  refine lv_iload_n hx hb d_JString_charAt_11 rfl (lv_at hl 1 rfl) ?_
  refine CtX.callS (As := [.ref (V.2 i), .int (nI k)]) (rest := []) hx hb hml hown hts hK hE hA hl.1 hW (cx_JStringLatin1_charAt l G V hfl i k (by first | assumption | omega | decide) (by first | assumption | omega | decide)) HdOf.code rfl (sx_w hE 9 rfl rfl) (hts _ w_st_JStringLatin1_charAt) (hts _ w_ini_JStringLatin1) (hts _ w_code_JStringLatin1_charAt) yd_JStringLatin1_charAt.2 [] (by decide) rfl rfl rfl (Nat.le_of_ble_eq_true rfl) d_JString_charAt_12 (by decide) (by decide) rfl rfl ⟨by decide, by decide⟩ (fun o w' hp => by rw [hp.2]; exact Nat.le_of_ble_eq_true rfl) (fun v w' H locs hp hW => ?_) (fun X a cell w' H locs hp => absurd hp.1 (fun h => by cases h))
  obtain ⟨hv, rfl⟩ := hp
  cases hv
  have hW : Wd G A s.heap [] H locs := hW
  refine W.eq (g2 := F0 m 15 ls [.int (chS i k)]) rfl ?_
  exact CtX.cret hx hb hr hnl hW (by decide) (by decide) d_JString_charAt_15 (by exact sl_n i k) ⟨rfl, rfl⟩

theorem d_JStringLatin1_canEncode_0 : decode b_JStringLatin1_canEncode 0 = .ok (.iload_n 0, 1) := by decide +kernel
theorem d_JStringLatin1_canEncode_1 : decode b_JStringLatin1_canEncode 1 = .ok (.ifCond .lt 14, 3) := by decide +kernel
theorem d_JStringLatin1_canEncode_4 : decode b_JStringLatin1_canEncode 4 = .ok (.iload_n 0, 1) := by decide +kernel
theorem d_JStringLatin1_canEncode_5 : decode b_JStringLatin1_canEncode 5 = .ok (.sipush 255, 3) := by decide +kernel
theorem d_JStringLatin1_canEncode_8 : decode b_JStringLatin1_canEncode 8 = .ok (.if_icmp .gt 7, 3) := by decide +kernel
theorem d_JStringLatin1_canEncode_11 : decode b_JStringLatin1_canEncode 11 = .ok (.iconst 1, 1) := by decide +kernel
theorem d_JStringLatin1_canEncode_12 : decode b_JStringLatin1_canEncode 12 = .ok (.goto 4, 3) := by decide +kernel
theorem d_JStringLatin1_canEncode_15 : decode b_JStringLatin1_canEncode 15 = .ok (.iconst 0, 1) := by decide +kernel
theorem d_JStringLatin1_canEncode_16 : decode b_JStringLatin1_canEncode 16 = .ok (.ireturn, 1) := by decide +kernel
abbrev rm__JStringLatin1_canEncode : Room := { frames := 0, cells := 0, slots := 0, locals := 0 }
set_option maxHeartbeats 4000000 in
set_option maxRecDepth 100000 in
theorem cx_JStringLatin1_canEncode (l : Launch) (G : Gt) (V : Ev) (hfl : l.flags = flags0) (x : Int32) (h0 : ¬ x < 0) (h1 : ¬ 255 < x) : CtX l G V y_JStringLatin1_canEncode (.code y_JStringLatin1_canEncode b_JStringLatin1_canEncode 1 (some .boolean)) rm__JStringLatin1_canEncode [.int x] [] 0 0 (fun o w' => o = .inl (some (.int 1)) ∧ w' = []) := by
  refine CtX.ofF HdOf.code (by decide +kernel) (Nat.le_of_ble_eq_true rfl) (fun p e s m args below meth c A ls H locs hx hb hml hr hnl hown hts hnm hK hA hl hW hE htab => ?_)
  have hl : lv_has ls 1 [(0, .int x)] := hl
  refine lv_iload_n hx hb d_JStringLatin1_canEncode_0 rfl (lv_at hl 0 rfl) ?_
  refine lv_if_lt (tgt := 15) hx hb d_JStringLatin1_canEncode_1 rfl (fun hz => absurd hz h0) (fun _ => ?_)
  refine lv_iload_n hx hb d_JStringLatin1_canEncode_4 rfl (lv_at hl 0 rfl) ?_
  refine lv_sipush (v := 255) hx hb d_JStringLatin1_canEncode_5 (by decide) ?_
  refine lv_icmp_gt (tgt := 15) hx hb d_JStringLatin1_canEncode_8 rfl (fun hz => absurd hz h1) (fun _ => ?_)
  refine lv_iconst (v := 1) hx hb d_JStringLatin1_canEncode_11 (by decide) ?_
  refine lv_goto (tgt := 16) hx hb d_JStringLatin1_canEncode_12 rfl ?_
  exact CtX.zret hx hb hr hnl hW (by decide) (by decide) d_JStringLatin1_canEncode_16 (by decide) ⟨rfl, rfl⟩

abbrev rm__JMath_max : Room := { frames := 0, cells := 0, slots := 0, locals := 0 }
set_option maxHeartbeats 4000000 in
set_option maxRecDepth 100000 in
theorem cx_JMath_max (l : Launch) (G : Gt) (V : Ev) (hfl : l.flags = flags0)  : CtX l G V y_JMath_max (.code y_JMath_max b_JMath_max 2 (some .int)) rm__JMath_max [.int 0, .int 0] [] 0 0 (fun o w' => o = .inl (some (.int 0)) ∧ w' = []) := by
  refine CtX.ofF HdOf.code (by decide +kernel) (Nat.le_of_ble_eq_true rfl) (fun p e s m args below meth c A ls H locs hx hb hml hr hnl hown hts hnm hK hA hl hW hE htab => ?_)
  have hl : lv_has ls 2 [(0, .int 0), (1, .int 0)] := hl
  refine lv_iload_n hx hb d_JMath_max_0 rfl (lv_at hl 0 rfl) ?_
  refine lv_iload_n hx hb d_JMath_max_1 rfl (lv_at hl 1 rfl) ?_
  refine lv_icmp_lt (tgt := 9) hx hb d_JMath_max_2 rfl (fun hz => absurd hz (by decide)) (fun _ => ?_)
  refine lv_iload_n hx hb d_JMath_max_5 rfl (lv_at hl 0 rfl) ?_
  refine lv_goto (tgt := 10) hx hb d_JMath_max_6 rfl ?_
  exact CtX.iret hx hb hr hnl hW (by decide) (by decide) d_JMath_max_10 ⟨rfl, rfl⟩

abbrev rm__JMath_min : Room := { frames := 0, cells := 0, slots := 0, locals := 0 }
set_option maxHeartbeats 4000000 in
set_option maxRecDepth 100000 in
theorem cx_JMath_min (l : Launch) (G : Gt) (V : Ev) (hfl : l.flags = flags0)  : CtX l G V y_JMath_min (.code y_JMath_min b_JMath_min 2 (some .int)) rm__JMath_min [.int 9, .int 9] [] 0 0 (fun o w' => o = .inl (some (.int 9)) ∧ w' = []) := by
  refine CtX.ofF HdOf.code (by decide +kernel) (Nat.le_of_ble_eq_true rfl) (fun p e s m args below meth c A ls H locs hx hb hml hr hnl hown hts hnm hK hA hl hW hE htab => ?_)
  have hl : lv_has ls 2 [(0, .int 9), (1, .int 9)] := hl
  refine lv_iload_n hx hb d_JMath_min_0 rfl (lv_at hl 0 rfl) ?_
  refine lv_iload_n hx hb d_JMath_min_1 rfl (lv_at hl 1 rfl) ?_
  refine lv_icmp_gt (tgt := 9) hx hb d_JMath_min_2 rfl (fun hz => absurd hz (by decide)) (fun _ => ?_)
  refine lv_iload_n hx hb d_JMath_min_5 rfl (lv_at hl 0 rfl) ?_
  refine lv_goto (tgt := 10) hx hb d_JMath_min_6 rfl ?_
  exact CtX.iret hx hb hr hnl hW (by decide) (by decide) d_JMath_min_10 ⟨rfl, rfl⟩

theorem d_JStringLatin1_indexOfChar_0 : decode b_JStringLatin1_indexOfChar 0 = .ok (.iload_n 1, 1) := by decide +kernel
theorem d_JStringLatin1_indexOfChar_1 : decode b_JStringLatin1_indexOfChar 1 = .ok (.i2b, 1) := by decide +kernel
theorem d_JStringLatin1_indexOfChar_2 : decode b_JStringLatin1_indexOfChar 2 = .ok (.istore 4, 2) := by decide +kernel
theorem d_JStringLatin1_indexOfChar_4 : decode b_JStringLatin1_indexOfChar 4 = .ok (.iload_n 2, 1) := by decide +kernel
theorem d_JStringLatin1_indexOfChar_5 : decode b_JStringLatin1_indexOfChar 5 = .ok (.istore 5, 2) := by decide +kernel
theorem d_JStringLatin1_indexOfChar_7 : decode b_JStringLatin1_indexOfChar 7 = .ok (.iload 5, 2) := by decide +kernel
theorem d_JStringLatin1_indexOfChar_9 : decode b_JStringLatin1_indexOfChar 9 = .ok (.iload_n 3, 1) := by decide +kernel
theorem d_JStringLatin1_indexOfChar_10 : decode b_JStringLatin1_indexOfChar 10 = .ok (.if_icmp .ge 21, 3) := by decide +kernel
theorem d_JStringLatin1_indexOfChar_13 : decode b_JStringLatin1_indexOfChar 13 = .ok (.aload_n 0, 1) := by decide +kernel
theorem d_JStringLatin1_indexOfChar_14 : decode b_JStringLatin1_indexOfChar 14 = .ok (.iload 5, 2) := by decide +kernel
theorem d_JStringLatin1_indexOfChar_16 : decode b_JStringLatin1_indexOfChar 16 = .ok (.baload, 1) := by decide +kernel
theorem d_JStringLatin1_indexOfChar_17 : decode b_JStringLatin1_indexOfChar 17 = .ok (.iload 4, 2) := by decide +kernel
theorem d_JStringLatin1_indexOfChar_19 : decode b_JStringLatin1_indexOfChar 19 = .ok (.if_icmp .ne 6, 3) := by decide +kernel
theorem d_JStringLatin1_indexOfChar_22 : decode b_JStringLatin1_indexOfChar 22 = .ok (.iload 5, 2) := by decide +kernel
theorem d_JStringLatin1_indexOfChar_24 : decode b_JStringLatin1_indexOfChar 24 = .ok (.ireturn, 1) := by decide +kernel
theorem d_JStringLatin1_indexOfChar_25 : decode b_JStringLatin1_indexOfChar 25 = .ok (.iinc 5 1, 3) := by decide +kernel
theorem d_JStringLatin1_indexOfChar_28 : decode b_JStringLatin1_indexOfChar 28 = .ok (.goto (-21), 3) := by decide +kernel
theorem d_JStringLatin1_indexOfChar_31 : decode b_JStringLatin1_indexOfChar 31 = .ok (.iconst (-1), 1) := by decide +kernel
theorem d_JStringLatin1_indexOfChar_32 : decode b_JStringLatin1_indexOfChar 32 = .ok (.ireturn, 1) := by decide +kernel
def o_JStringLatin1_indexOfChar_r (x : Int32) : Int32 := if 61 = x.toInt8.toInt32 then 0 else if 43 = x.toInt8.toInt32 then 1 else if 45 = x.toInt8.toInt32 then 2 else if 42 = x.toInt8.toInt32 then 3 else if 60 = x.toInt8.toInt32 then 4 else if 63 = x.toInt8.toInt32 then 5 else if 58 = x.toInt8.toInt32 then 6 else if 59 = x.toInt8.toInt32 then 7 else if 36 = x.toInt8.toInt32 then 8 else (-1)
abbrev rm__JStringLatin1_indexOfChar : Room := { frames := 0, cells := 0, slots := 0, locals := 0 }
set_option maxHeartbeats 4000000 in
set_option maxRecDepth 100000 in
theorem cx_JStringLatin1_indexOfChar (l : Launch) (G : Gt) (V : Ev) (hfl : l.flags = flags0) (x : Int32) : CtX l G V y_JStringLatin1_indexOfChar (.code y_JStringLatin1_indexOfChar b_JStringLatin1_indexOfChar 6 (some .int)) rm__JStringLatin1_indexOfChar [.ref (V.2 3), .int x, .int 0, .int 9] [] 0 0 (fun o w' => o = .inl (some (.int (o_JStringLatin1_indexOfChar_r x))) ∧ w' = []) := by
  refine CtX.ofF HdOf.code (by decide +kernel) (Nat.le_of_ble_eq_true rfl) (fun p e s m args below meth c A ls H locs hx hb hml hr hnl hown hts hnm hK hA hl hW hE htab => ?_)
  have hl : lv_has ls 6 [(0, .ref (V.2 3)), (1, .int x), (2, .int 0), (3, .int 9)] := hl
  refine lv_iload_n hx hb d_JStringLatin1_indexOfChar_0 rfl (lv_at hl 1 rfl) ?_
  refine lv_i2b (v := x.toInt8.toInt32) hx hb d_JStringLatin1_indexOfChar_1 rfl ?_
  refine lv_istore (lv' := [(4, .int x.toInt8.toInt32), (0, .ref (V.2 3)), (1, .int x), (2, .int 0), (3, .int 9)]) hx hb d_JStringLatin1_indexOfChar_2 hl (by decide) rfl (fun ls hl => ?_)
  refine lv_iload_n hx hb d_JStringLatin1_indexOfChar_4 rfl (lv_at hl 3 rfl) ?_
  refine lv_istore (lv' := [(5, .int 0), (4, .int x.toInt8.toInt32), (0, .ref (V.2 3)), (1, .int x), (2, .int 0), (3, .int 9)]) hx hb d_JStringLatin1_indexOfChar_5 hl (by decide) rfl (fun ls hl => ?_)
  refine lv_iload hx hb d_JStringLatin1_indexOfChar_7 (lv_at hl 0 rfl) ?_
  refine lv_iload_n hx hb d_JStringLatin1_indexOfChar_9 rfl (lv_at hl 5 rfl) ?_
  refine lv_icmp_ge (tgt := 31) hx hb d_JStringLatin1_indexOfChar_10 rfl (fun hz => absurd hz (by decide)) (fun _ => ?_)
  refine lv_aload_n hx hb d_JStringLatin1_indexOfChar_13 rfl (lv_at hl 2 rfl) ?_
  refine lv_iload hx hb d_JStringLatin1_indexOfChar_14 (lv_at hl 0 rfl) ?_
  refine va_tb (v := .int 61) hx hb (hE.2.2.1.1.1 3 (by decide)).2.2.2 hW.2.2 (by unfold vp_in; decide) rfl d_JStringLatin1_indexOfChar_16 ?_
  refine lv_iload hx hb d_JStringLatin1_indexOfChar_17 (lv_at hl 1 rfl) ?_
  refine lv_icmp_ne (tgt := 25) hx hb d_JStringLatin1_indexOfChar_19 rfl (fun ht1 => ?_) (fun hf2 => ?_)
  · refine lv_iinc (k := 0) (v := 1) (lv' := [(5, .int 1), (4, .int x.toInt8.toInt32), (0, .ref (V.2 3)), (1, .int x), (2, .int 0), (3, .int 9)]) hx hb d_JStringLatin1_indexOfChar_25 hl rfl (by decide) (by decide) rfl (fun ls hl => ?_)
    refine lv_goto (tgt := 7) hx hb d_JStringLatin1_indexOfChar_28 rfl ?_
    refine lv_iload hx hb d_JStringLatin1_indexOfChar_7 (lv_at hl 0 rfl) ?_
    refine lv_iload_n hx hb d_JStringLatin1_indexOfChar_9 rfl (lv_at hl 5 rfl) ?_
    refine lv_icmp_ge (tgt := 31) hx hb d_JStringLatin1_indexOfChar_10 rfl (fun hz => absurd hz (by decide)) (fun _ => ?_)
    refine lv_aload_n hx hb d_JStringLatin1_indexOfChar_13 rfl (lv_at hl 2 rfl) ?_
    refine lv_iload hx hb d_JStringLatin1_indexOfChar_14 (lv_at hl 0 rfl) ?_
    refine va_tb (v := .int 43) hx hb (hE.2.2.1.1.1 3 (by decide)).2.2.2 hW.2.2 (by unfold vp_in; decide) rfl d_JStringLatin1_indexOfChar_16 ?_
    refine lv_iload hx hb d_JStringLatin1_indexOfChar_17 (lv_at hl 1 rfl) ?_
    refine lv_icmp_ne (tgt := 25) hx hb d_JStringLatin1_indexOfChar_19 rfl (fun ht3 => ?_) (fun hf4 => ?_)
    · refine lv_iinc (k := 0) (v := 2) (lv' := [(5, .int 2), (4, .int x.toInt8.toInt32), (0, .ref (V.2 3)), (1, .int x), (2, .int 0), (3, .int 9)]) hx hb d_JStringLatin1_indexOfChar_25 hl rfl (by decide) (by decide) rfl (fun ls hl => ?_)
      refine lv_goto (tgt := 7) hx hb d_JStringLatin1_indexOfChar_28 rfl ?_
      refine lv_iload hx hb d_JStringLatin1_indexOfChar_7 (lv_at hl 0 rfl) ?_
      refine lv_iload_n hx hb d_JStringLatin1_indexOfChar_9 rfl (lv_at hl 5 rfl) ?_
      refine lv_icmp_ge (tgt := 31) hx hb d_JStringLatin1_indexOfChar_10 rfl (fun hz => absurd hz (by decide)) (fun _ => ?_)
      refine lv_aload_n hx hb d_JStringLatin1_indexOfChar_13 rfl (lv_at hl 2 rfl) ?_
      refine lv_iload hx hb d_JStringLatin1_indexOfChar_14 (lv_at hl 0 rfl) ?_
      refine va_tb (v := .int 45) hx hb (hE.2.2.1.1.1 3 (by decide)).2.2.2 hW.2.2 (by unfold vp_in; decide) rfl d_JStringLatin1_indexOfChar_16 ?_
      refine lv_iload hx hb d_JStringLatin1_indexOfChar_17 (lv_at hl 1 rfl) ?_
      refine lv_icmp_ne (tgt := 25) hx hb d_JStringLatin1_indexOfChar_19 rfl (fun ht5 => ?_) (fun hf6 => ?_)
      · refine lv_iinc (k := 0) (v := 3) (lv' := [(5, .int 3), (4, .int x.toInt8.toInt32), (0, .ref (V.2 3)), (1, .int x), (2, .int 0), (3, .int 9)]) hx hb d_JStringLatin1_indexOfChar_25 hl rfl (by decide) (by decide) rfl (fun ls hl => ?_)
        refine lv_goto (tgt := 7) hx hb d_JStringLatin1_indexOfChar_28 rfl ?_
        refine lv_iload hx hb d_JStringLatin1_indexOfChar_7 (lv_at hl 0 rfl) ?_
        refine lv_iload_n hx hb d_JStringLatin1_indexOfChar_9 rfl (lv_at hl 5 rfl) ?_
        refine lv_icmp_ge (tgt := 31) hx hb d_JStringLatin1_indexOfChar_10 rfl (fun hz => absurd hz (by decide)) (fun _ => ?_)
        refine lv_aload_n hx hb d_JStringLatin1_indexOfChar_13 rfl (lv_at hl 2 rfl) ?_
        refine lv_iload hx hb d_JStringLatin1_indexOfChar_14 (lv_at hl 0 rfl) ?_
        refine va_tb (v := .int 42) hx hb (hE.2.2.1.1.1 3 (by decide)).2.2.2 hW.2.2 (by unfold vp_in; decide) rfl d_JStringLatin1_indexOfChar_16 ?_
        refine lv_iload hx hb d_JStringLatin1_indexOfChar_17 (lv_at hl 1 rfl) ?_
        refine lv_icmp_ne (tgt := 25) hx hb d_JStringLatin1_indexOfChar_19 rfl (fun ht7 => ?_) (fun hf8 => ?_)
        · refine lv_iinc (k := 0) (v := 4) (lv' := [(5, .int 4), (4, .int x.toInt8.toInt32), (0, .ref (V.2 3)), (1, .int x), (2, .int 0), (3, .int 9)]) hx hb d_JStringLatin1_indexOfChar_25 hl rfl (by decide) (by decide) rfl (fun ls hl => ?_)
          refine lv_goto (tgt := 7) hx hb d_JStringLatin1_indexOfChar_28 rfl ?_
          refine lv_iload hx hb d_JStringLatin1_indexOfChar_7 (lv_at hl 0 rfl) ?_
          refine lv_iload_n hx hb d_JStringLatin1_indexOfChar_9 rfl (lv_at hl 5 rfl) ?_
          refine lv_icmp_ge (tgt := 31) hx hb d_JStringLatin1_indexOfChar_10 rfl (fun hz => absurd hz (by decide)) (fun _ => ?_)
          refine lv_aload_n hx hb d_JStringLatin1_indexOfChar_13 rfl (lv_at hl 2 rfl) ?_
          refine lv_iload hx hb d_JStringLatin1_indexOfChar_14 (lv_at hl 0 rfl) ?_
          refine va_tb (v := .int 60) hx hb (hE.2.2.1.1.1 3 (by decide)).2.2.2 hW.2.2 (by unfold vp_in; decide) rfl d_JStringLatin1_indexOfChar_16 ?_
          refine lv_iload hx hb d_JStringLatin1_indexOfChar_17 (lv_at hl 1 rfl) ?_
          refine lv_icmp_ne (tgt := 25) hx hb d_JStringLatin1_indexOfChar_19 rfl (fun ht9 => ?_) (fun hf10 => ?_)
          · refine lv_iinc (k := 0) (v := 5) (lv' := [(5, .int 5), (4, .int x.toInt8.toInt32), (0, .ref (V.2 3)), (1, .int x), (2, .int 0), (3, .int 9)]) hx hb d_JStringLatin1_indexOfChar_25 hl rfl (by decide) (by decide) rfl (fun ls hl => ?_)
            refine lv_goto (tgt := 7) hx hb d_JStringLatin1_indexOfChar_28 rfl ?_
            refine lv_iload hx hb d_JStringLatin1_indexOfChar_7 (lv_at hl 0 rfl) ?_
            refine lv_iload_n hx hb d_JStringLatin1_indexOfChar_9 rfl (lv_at hl 5 rfl) ?_
            refine lv_icmp_ge (tgt := 31) hx hb d_JStringLatin1_indexOfChar_10 rfl (fun hz => absurd hz (by decide)) (fun _ => ?_)
            refine lv_aload_n hx hb d_JStringLatin1_indexOfChar_13 rfl (lv_at hl 2 rfl) ?_
            refine lv_iload hx hb d_JStringLatin1_indexOfChar_14 (lv_at hl 0 rfl) ?_
            refine va_tb (v := .int 63) hx hb (hE.2.2.1.1.1 3 (by decide)).2.2.2 hW.2.2 (by unfold vp_in; decide) rfl d_JStringLatin1_indexOfChar_16 ?_
            refine lv_iload hx hb d_JStringLatin1_indexOfChar_17 (lv_at hl 1 rfl) ?_
            refine lv_icmp_ne (tgt := 25) hx hb d_JStringLatin1_indexOfChar_19 rfl (fun ht11 => ?_) (fun hf12 => ?_)
            · refine lv_iinc (k := 0) (v := 6) (lv' := [(5, .int 6), (4, .int x.toInt8.toInt32), (0, .ref (V.2 3)), (1, .int x), (2, .int 0), (3, .int 9)]) hx hb d_JStringLatin1_indexOfChar_25 hl rfl (by decide) (by decide) rfl (fun ls hl => ?_)
              refine lv_goto (tgt := 7) hx hb d_JStringLatin1_indexOfChar_28 rfl ?_
              refine lv_iload hx hb d_JStringLatin1_indexOfChar_7 (lv_at hl 0 rfl) ?_
              refine lv_iload_n hx hb d_JStringLatin1_indexOfChar_9 rfl (lv_at hl 5 rfl) ?_
              refine lv_icmp_ge (tgt := 31) hx hb d_JStringLatin1_indexOfChar_10 rfl (fun hz => absurd hz (by decide)) (fun _ => ?_)
              refine lv_aload_n hx hb d_JStringLatin1_indexOfChar_13 rfl (lv_at hl 2 rfl) ?_
              refine lv_iload hx hb d_JStringLatin1_indexOfChar_14 (lv_at hl 0 rfl) ?_
              refine va_tb (v := .int 58) hx hb (hE.2.2.1.1.1 3 (by decide)).2.2.2 hW.2.2 (by unfold vp_in; decide) rfl d_JStringLatin1_indexOfChar_16 ?_
              refine lv_iload hx hb d_JStringLatin1_indexOfChar_17 (lv_at hl 1 rfl) ?_
              refine lv_icmp_ne (tgt := 25) hx hb d_JStringLatin1_indexOfChar_19 rfl (fun ht13 => ?_) (fun hf14 => ?_)
              · refine lv_iinc (k := 0) (v := 7) (lv' := [(5, .int 7), (4, .int x.toInt8.toInt32), (0, .ref (V.2 3)), (1, .int x), (2, .int 0), (3, .int 9)]) hx hb d_JStringLatin1_indexOfChar_25 hl rfl (by decide) (by decide) rfl (fun ls hl => ?_)
                refine lv_goto (tgt := 7) hx hb d_JStringLatin1_indexOfChar_28 rfl ?_
                refine lv_iload hx hb d_JStringLatin1_indexOfChar_7 (lv_at hl 0 rfl) ?_
                refine lv_iload_n hx hb d_JStringLatin1_indexOfChar_9 rfl (lv_at hl 5 rfl) ?_
                refine lv_icmp_ge (tgt := 31) hx hb d_JStringLatin1_indexOfChar_10 rfl (fun hz => absurd hz (by decide)) (fun _ => ?_)
                refine lv_aload_n hx hb d_JStringLatin1_indexOfChar_13 rfl (lv_at hl 2 rfl) ?_
                refine lv_iload hx hb d_JStringLatin1_indexOfChar_14 (lv_at hl 0 rfl) ?_
                refine va_tb (v := .int 59) hx hb (hE.2.2.1.1.1 3 (by decide)).2.2.2 hW.2.2 (by unfold vp_in; decide) rfl d_JStringLatin1_indexOfChar_16 ?_
                refine lv_iload hx hb d_JStringLatin1_indexOfChar_17 (lv_at hl 1 rfl) ?_
                refine lv_icmp_ne (tgt := 25) hx hb d_JStringLatin1_indexOfChar_19 rfl (fun ht15 => ?_) (fun hf16 => ?_)
                · refine lv_iinc (k := 0) (v := 8) (lv' := [(5, .int 8), (4, .int x.toInt8.toInt32), (0, .ref (V.2 3)), (1, .int x), (2, .int 0), (3, .int 9)]) hx hb d_JStringLatin1_indexOfChar_25 hl rfl (by decide) (by decide) rfl (fun ls hl => ?_)
                  refine lv_goto (tgt := 7) hx hb d_JStringLatin1_indexOfChar_28 rfl ?_
                  refine lv_iload hx hb d_JStringLatin1_indexOfChar_7 (lv_at hl 0 rfl) ?_
                  refine lv_iload_n hx hb d_JStringLatin1_indexOfChar_9 rfl (lv_at hl 5 rfl) ?_
                  refine lv_icmp_ge (tgt := 31) hx hb d_JStringLatin1_indexOfChar_10 rfl (fun hz => absurd hz (by decide)) (fun _ => ?_)
                  refine lv_aload_n hx hb d_JStringLatin1_indexOfChar_13 rfl (lv_at hl 2 rfl) ?_
                  refine lv_iload hx hb d_JStringLatin1_indexOfChar_14 (lv_at hl 0 rfl) ?_
                  refine va_tb (v := .int 36) hx hb (hE.2.2.1.1.1 3 (by decide)).2.2.2 hW.2.2 (by unfold vp_in; decide) rfl d_JStringLatin1_indexOfChar_16 ?_
                  refine lv_iload hx hb d_JStringLatin1_indexOfChar_17 (lv_at hl 1 rfl) ?_
                  refine lv_icmp_ne (tgt := 25) hx hb d_JStringLatin1_indexOfChar_19 rfl (fun ht17 => ?_) (fun hf18 => ?_)
                  · refine lv_iinc (k := 0) (v := 9) (lv' := [(5, .int 9), (4, .int x.toInt8.toInt32), (0, .ref (V.2 3)), (1, .int x), (2, .int 0), (3, .int 9)]) hx hb d_JStringLatin1_indexOfChar_25 hl rfl (by decide) (by decide) rfl (fun ls hl => ?_)
                    refine lv_goto (tgt := 7) hx hb d_JStringLatin1_indexOfChar_28 rfl ?_
                    refine lv_iload hx hb d_JStringLatin1_indexOfChar_7 (lv_at hl 0 rfl) ?_
                    refine lv_iload_n hx hb d_JStringLatin1_indexOfChar_9 rfl (lv_at hl 5 rfl) ?_
                    refine lv_icmp_ge (tgt := 31) hx hb d_JStringLatin1_indexOfChar_10 rfl (fun _ => ?_) (fun hz => absurd (by decide) hz)
                    refine lv_iconst (v := (-1)) hx hb d_JStringLatin1_indexOfChar_31 (by decide) ?_
                    exact CtX.iret hx hb hr hnl hW (by decide) (by decide) d_JStringLatin1_indexOfChar_32 ⟨by first | rfl | (simp only [o_JStringLatin1_indexOfChar_r, if_neg ht1, if_neg ht3, if_neg ht5, if_neg ht7, if_neg ht9, if_neg ht11, if_neg ht13, if_neg ht15, if_neg ht17]), by first | rfl | (simp only [o_JStringLatin1_indexOfChar_r, if_neg ht1, if_neg ht3, if_neg ht5, if_neg ht7, if_neg ht9, if_neg ht11, if_neg ht13, if_neg ht15, if_neg ht17])⟩
                  · refine lv_iload hx hb d_JStringLatin1_indexOfChar_22 (lv_at hl 0 rfl) ?_
                    exact CtX.iret hx hb hr hnl hW (by decide) (by decide) d_JStringLatin1_indexOfChar_24 ⟨by first | rfl | (simp only [o_JStringLatin1_indexOfChar_r, if_neg ht1, if_neg ht3, if_neg ht5, if_neg ht7, if_neg ht9, if_neg ht11, if_neg ht13, if_neg ht15, if_pos hf18]), by first | rfl | (simp only [o_JStringLatin1_indexOfChar_r, if_neg ht1, if_neg ht3, if_neg ht5, if_neg ht7, if_neg ht9, if_neg ht11, if_neg ht13, if_neg ht15, if_pos hf18])⟩
                · refine lv_iload hx hb d_JStringLatin1_indexOfChar_22 (lv_at hl 0 rfl) ?_
                  exact CtX.iret hx hb hr hnl hW (by decide) (by decide) d_JStringLatin1_indexOfChar_24 ⟨by first | rfl | (simp only [o_JStringLatin1_indexOfChar_r, if_neg ht1, if_neg ht3, if_neg ht5, if_neg ht7, if_neg ht9, if_neg ht11, if_neg ht13, if_pos hf16]), by first | rfl | (simp only [o_JStringLatin1_indexOfChar_r, if_neg ht1, if_neg ht3, if_neg ht5, if_neg ht7, if_neg ht9, if_neg ht11, if_neg ht13, if_pos hf16])⟩
              · refine lv_iload hx hb d_JStringLatin1_indexOfChar_22 (lv_at hl 0 rfl) ?_
                exact CtX.iret hx hb hr hnl hW (by decide) (by decide) d_JStringLatin1_indexOfChar_24 ⟨by first | rfl | (simp only [o_JStringLatin1_indexOfChar_r, if_neg ht1, if_neg ht3, if_neg ht5, if_neg ht7, if_neg ht9, if_neg ht11, if_pos hf14]), by first | rfl | (simp only [o_JStringLatin1_indexOfChar_r, if_neg ht1, if_neg ht3, if_neg ht5, if_neg ht7, if_neg ht9, if_neg ht11, if_pos hf14])⟩
            · refine lv_iload hx hb d_JStringLatin1_indexOfChar_22 (lv_at hl 0 rfl) ?_
              exact CtX.iret hx hb hr hnl hW (by decide) (by decide) d_JStringLatin1_indexOfChar_24 ⟨by first | rfl | (simp only [o_JStringLatin1_indexOfChar_r, if_neg ht1, if_neg ht3, if_neg ht5, if_neg ht7, if_neg ht9, if_pos hf12]), by first | rfl | (simp only [o_JStringLatin1_indexOfChar_r, if_neg ht1, if_neg ht3, if_neg ht5, if_neg ht7, if_neg ht9, if_pos hf12])⟩
          · refine lv_iload hx hb d_JStringLatin1_indexOfChar_22 (lv_at hl 0 rfl) ?_
            exact CtX.iret hx hb hr hnl hW (by decide) (by decide) d_JStringLatin1_indexOfChar_24 ⟨by first | rfl | (simp only [o_JStringLatin1_indexOfChar_r, if_neg ht1, if_neg ht3, if_neg ht5, if_neg ht7, if_pos hf10]), by first | rfl | (simp only [o_JStringLatin1_indexOfChar_r, if_neg ht1, if_neg ht3, if_neg ht5, if_neg ht7, if_pos hf10])⟩
        · refine lv_iload hx hb d_JStringLatin1_indexOfChar_22 (lv_at hl 0 rfl) ?_
          exact CtX.iret hx hb hr hnl hW (by decide) (by decide) d_JStringLatin1_indexOfChar_24 ⟨by first | rfl | (simp only [o_JStringLatin1_indexOfChar_r, if_neg ht1, if_neg ht3, if_neg ht5, if_pos hf8]), by first | rfl | (simp only [o_JStringLatin1_indexOfChar_r, if_neg ht1, if_neg ht3, if_neg ht5, if_pos hf8])⟩
      · refine lv_iload hx hb d_JStringLatin1_indexOfChar_22 (lv_at hl 0 rfl) ?_
        exact CtX.iret hx hb hr hnl hW (by decide) (by decide) d_JStringLatin1_indexOfChar_24 ⟨by first | rfl | (simp only [o_JStringLatin1_indexOfChar_r, if_neg ht1, if_neg ht3, if_pos hf6]), by first | rfl | (simp only [o_JStringLatin1_indexOfChar_r, if_neg ht1, if_neg ht3, if_pos hf6])⟩
    · refine lv_iload hx hb d_JStringLatin1_indexOfChar_22 (lv_at hl 0 rfl) ?_
      exact CtX.iret hx hb hr hnl hW (by decide) (by decide) d_JStringLatin1_indexOfChar_24 ⟨by first | rfl | (simp only [o_JStringLatin1_indexOfChar_r, if_neg ht1, if_pos hf4]), by first | rfl | (simp only [o_JStringLatin1_indexOfChar_r, if_neg ht1, if_pos hf4])⟩
  · refine lv_iload hx hb d_JStringLatin1_indexOfChar_22 (lv_at hl 0 rfl) ?_
    exact CtX.iret hx hb hr hnl hW (by decide) (by decide) d_JStringLatin1_indexOfChar_24 ⟨by first | rfl | (simp only [o_JStringLatin1_indexOfChar_r, if_pos hf2]), by first | rfl | (simp only [o_JStringLatin1_indexOfChar_r, if_pos hf2])⟩

theorem d_L1_indexOf_0 : decode b_L1_indexOf 0 = .ok (.iload_n 1, 1) := by decide +kernel
theorem d_L1_indexOf_1 : decode b_L1_indexOf 1 = .ok (.invokestatic 88, 3) := by decide +kernel
theorem d_L1_indexOf_4 : decode b_L1_indexOf 4 = .ok (.ifCond .ne 5, 3) := by decide +kernel
theorem d_L1_indexOf_7 : decode b_L1_indexOf 7 = .ok (.iconst (-1), 1) := by decide +kernel
theorem d_L1_indexOf_8 : decode b_L1_indexOf 8 = .ok (.ireturn, 1) := by decide +kernel
theorem d_L1_indexOf_9 : decode b_L1_indexOf 9 = .ok (.iload_n 2, 1) := by decide +kernel
theorem d_L1_indexOf_10 : decode b_L1_indexOf 10 = .ok (.iconst 0, 1) := by decide +kernel
theorem d_L1_indexOf_11 : decode b_L1_indexOf 11 = .ok (.invokestatic 92, 3) := by decide +kernel
theorem d_L1_indexOf_14 : decode b_L1_indexOf 14 = .ok (.istore_n 2, 1) := by decide +kernel
theorem d_L1_indexOf_15 : decode b_L1_indexOf 15 = .ok (.iload_n 3, 1) := by decide +kernel
theorem d_L1_indexOf_16 : decode b_L1_indexOf 16 = .ok (.aload_n 0, 1) := by decide +kernel
theorem d_L1_indexOf_17 : decode b_L1_indexOf 17 = .ok (.arraylength, 1) := by decide +kernel
theorem d_L1_indexOf_18 : decode b_L1_indexOf 18 = .ok (.invokestatic 38, 3) := by decide +kernel
theorem d_L1_indexOf_21 : decode b_L1_indexOf 21 = .ok (.istore_n 3, 1) := by decide +kernel
theorem d_L1_indexOf_22 : decode b_L1_indexOf 22 = .ok (.iload_n 2, 1) := by decide +kernel
theorem d_L1_indexOf_23 : decode b_L1_indexOf 23 = .ok (.iload_n 3, 1) := by decide +kernel
theorem d_L1_indexOf_24 : decode b_L1_indexOf 24 = .ok (.if_icmp .lt 5, 3) := by decide +kernel
theorem d_L1_indexOf_27 : decode b_L1_indexOf 27 = .ok (.iconst (-1), 1) := by decide +kernel
theorem d_L1_indexOf_28 : decode b_L1_indexOf 28 = .ok (.ireturn, 1) := by decide +kernel
theorem d_L1_indexOf_29 : decode b_L1_indexOf 29 = .ok (.aload_n 0, 1) := by decide +kernel
theorem d_L1_indexOf_30 : decode b_L1_indexOf 30 = .ok (.iload_n 1, 1) := by decide +kernel
theorem d_L1_indexOf_31 : decode b_L1_indexOf 31 = .ok (.iload_n 2, 1) := by decide +kernel
theorem d_L1_indexOf_32 : decode b_L1_indexOf 32 = .ok (.iload_n 3, 1) := by decide +kernel
theorem d_L1_indexOf_33 : decode b_L1_indexOf 33 = .ok (.invokestatic 95, 3) := by decide +kernel
theorem d_L1_indexOf_36 : decode b_L1_indexOf 36 = .ok (.ireturn, 1) := by decide +kernel
abbrev rm__L1_indexOf : Room := { frames := 1, cells := 0, slots := 0, locals := 25 }
set_option maxHeartbeats 4000000 in
set_option maxRecDepth 100000 in
theorem cx_L1_indexOf (l : Launch) (G : Gt) (V : Ev) (hfl : l.flags = flags0) (x : Int32) (h0 : ¬ x < 0) (h1 : ¬ 255 < x) : CtX l G V y_L1_indexOf (.code y_L1_indexOf b_L1_indexOf 4 (some .int)) rm__L1_indexOf [.ref (V.2 3), .int x, .int 0, .int 9] [] 0 0 (fun o w' => o = .inl (some (.int (o_JStringLatin1_indexOfChar_r x))) ∧ w' = []) := by
  refine CtX.ofF HdOf.code (by decide +kernel) (Nat.le_of_ble_eq_true rfl) (fun p e s m args below meth c A ls H locs hx hb hml hr hnl hown hts hnm hK hA hl hW hE htab => ?_)
  have hl : lv_has ls 4 [(0, .ref (V.2 3)), (1, .int x), (2, .int 0), (3, .int 9)] := hl
  refine lv_iload_n hx hb d_L1_indexOf_0 rfl (lv_at hl 1 rfl) ?_
  refine CtX.callS (As := [.int x]) (rest := []) hx hb hml hown hts hK hE hA hl.1 hW (cx_JStringLatin1_canEncode l G V hfl x (by first | assumption | omega | decide) (by first | assumption | omega | decide)) HdOf.code rfl (sx_w hE 15 rfl rfl) (hts _ w_st_JStringLatin1_canEncode) (hts _ w_ini_JStringLatin1) (hts _ w_code_JStringLatin1_canEncode) yd_JStringLatin1_canEncode.2 [] (by decide) rfl rfl rfl (Nat.le_of_ble_eq_true rfl) d_L1_indexOf_1 (by decide) (by decide) rfl rfl ⟨by decide, by decide⟩ (fun o w' hp => by rw [hp.2]; exact Nat.le_of_ble_eq_true rfl) (fun v w' H locs hp hW => ?_) (fun X a cell w' H locs hp => absurd hp.1 (fun h => by cases h))
  obtain ⟨hv, rfl⟩ := hp
  cases hv
  have hW : Wd G A s.heap [] H locs := hW
  refine W.eq (g2 := F0 m 4 ls [.int 1]) rfl ?_
  refine lv_if_ne (tgt := 9) hx hb d_L1_indexOf_4 rfl (fun _ => ?_) (fun hz => absurd hz (by decide))
  refine lv_iload_n hx hb d_L1_indexOf_9 rfl (lv_at hl 2 rfl) ?_
  refine lv_iconst (v := 0) hx hb d_L1_indexOf_10 (by decide) ?_
  refine CtX.callS (As := [.int 0, .int 0]) (rest := []) hx hb hml hown hts hK hE hA hl.1 hW (cx_JMath_max l G V hfl  ) HdOf.code rfl (sx_w hE 16 rfl rfl) (hts _ w_st_JMath_max) (hts _ w_ini_JMath) (hts _ w_code_JMath_max) yd_JMath_max.2 [] (by decide) rfl rfl rfl (Nat.le_of_ble_eq_true rfl) d_L1_indexOf_11 (by decide) (by decide) rfl rfl ⟨by decide, by decide⟩ (fun o w' hp => by rw [hp.2]; exact Nat.le_of_ble_eq_true rfl) (fun v w' H locs hp hW => ?_) (fun X a cell w' H locs hp => absurd hp.1 (fun h => by cases h))
  obtain ⟨hv, rfl⟩ := hp
  cases hv
  have hW : Wd G A s.heap [] H locs := hW
  refine W.eq (g2 := F0 m 14 ls [.int 0]) rfl ?_
  refine lv_istore_n (lv' := [(2, .int 0), (0, .ref (V.2 3)), (1, .int x), (3, .int 9)]) hx hb d_L1_indexOf_14 rfl hl (by decide) rfl (fun ls hl => ?_)
  refine lv_iload_n hx hb d_L1_indexOf_15 rfl (lv_at hl 3 rfl) ?_
  refine lv_aload_n hx hb d_L1_indexOf_16 rfl (lv_at hl 1 rfl) ?_
  refine va_tlen (v := 9) hx hb (hE.2.2.1.1.1 3 (by decide)).2.2.2 hW.2.2 (by decide) d_L1_indexOf_17 ?_
  refine CtX.callS (As := [.int 9, .int 9]) (rest := []) hx hb hml hown hts hK hE hA hl.1 hW (cx_JMath_min l G V hfl  ) HdOf.code rfl (sx_w hE 17 rfl rfl) (hts _ w_st_JMath_min) (hts _ w_ini_JMath) (hts _ w_code_JMath_min) yd_JMath_min.2 [] (by decide) rfl rfl rfl (Nat.le_of_ble_eq_true rfl) d_L1_indexOf_18 (by decide) (by decide) rfl rfl ⟨by decide, by decide⟩ (fun o w' hp => by rw [hp.2]; exact Nat.le_of_ble_eq_true rfl) (fun v w' H locs hp hW => ?_) (fun X a cell w' H locs hp => absurd hp.1 (fun h => by cases h))
  obtain ⟨hv, rfl⟩ := hp
  cases hv
  have hW : Wd G A s.heap [] H locs := hW
  refine W.eq (g2 := F0 m 21 ls [.int 9]) rfl ?_
  refine lv_istore_n (lv' := [(3, .int 9), (2, .int 0), (0, .ref (V.2 3)), (1, .int x)]) hx hb d_L1_indexOf_21 rfl hl (by decide) rfl (fun ls hl => ?_)
  refine lv_iload_n hx hb d_L1_indexOf_22 rfl (lv_at hl 1 rfl) ?_
  refine lv_iload_n hx hb d_L1_indexOf_23 rfl (lv_at hl 0 rfl) ?_
  refine lv_icmp_lt (tgt := 29) hx hb d_L1_indexOf_24 rfl (fun _ => ?_) (fun hz => absurd (by decide) hz)
  refine lv_aload_n hx hb d_L1_indexOf_29 rfl (lv_at hl 2 rfl) ?_
  refine lv_iload_n hx hb d_L1_indexOf_30 rfl (lv_at hl 3 rfl) ?_
  refine lv_iload_n hx hb d_L1_indexOf_31 rfl (lv_at hl 1 rfl) ?_
  refine lv_iload_n hx hb d_L1_indexOf_32 rfl (lv_at hl 0 rfl) ?_
  refine CtX.callS (As := [.ref (V.2 3), .int x, .int 0, .int 9]) (rest := []) hx hb hml hown hts hK hE hA hl.1 hW (cx_JStringLatin1_indexOfChar l G V hfl x ) HdOf.code rfl (sx_w hE 18 rfl rfl) (hts _ w_st_JStringLatin1_indexOfChar) (hts _ w_ini_JStringLatin1) (hts _ w_code_JStringLatin1_indexOfChar) yd_JStringLatin1_indexOfChar.2 [] (by decide) rfl rfl rfl (Nat.le_of_ble_eq_true rfl) d_L1_indexOf_33 (by decide) (by decide) rfl rfl ⟨by decide, by decide⟩ (fun o w' hp => by rw [hp.2]; exact Nat.le_of_ble_eq_true rfl) (fun v w' H locs hp hW => ?_) (fun X a cell w' H locs hp => absurd hp.1 (fun h => by cases h))
  obtain ⟨hv, rfl⟩ := hp
  cases hv
  have hW : Wd G A s.heap [] H locs := hW
  refine W.eq (g2 := F0 m 36 ls [.int (o_JStringLatin1_indexOfChar_r x)]) rfl ?_
  exact CtX.iret hx hb hr hnl hW (by decide) (by decide) d_L1_indexOf_36 ⟨rfl, rfl⟩

theorem d_JString_indexOf1_0 : decode b_JString_indexOf1 0 = .ok (.aload_n 0, 1) := by decide +kernel
theorem d_JString_indexOf1_1 : decode b_JString_indexOf1 1 = .ok (.invokevirtual 492, 3) := by decide +kernel
theorem d_JString_indexOf1_4 : decode b_JString_indexOf1 4 = .ok (.ifCond .eq 19, 3) := by decide +kernel
theorem d_JString_indexOf1_7 : decode b_JString_indexOf1 7 = .ok (.aload_n 0, 1) := by decide +kernel
theorem d_JString_indexOf1_8 : decode b_JString_indexOf1 8 = .ok (.getfield 9, 3) := by decide +kernel
theorem d_JString_indexOf1_11 : decode b_JString_indexOf1 11 = .ok (.iload_n 1, 1) := by decide +kernel
theorem d_JString_indexOf1_12 : decode b_JString_indexOf1 12 = .ok (.iload_n 2, 1) := by decide +kernel
theorem d_JString_indexOf1_13 : decode b_JString_indexOf1 13 = .ok (.aload_n 0, 1) := by decide +kernel
theorem d_JString_indexOf1_14 : decode b_JString_indexOf1 14 = .ok (.invokevirtual 505, 3) := by decide +kernel
theorem d_JString_indexOf1_17 : decode b_JString_indexOf1 17 = .ok (.invokestatic 637, 3) := by decide +kernel
theorem d_JString_indexOf1_20 : decode b_JString_indexOf1 20 = .ok (.goto 16, 3) := by decide +kernel
theorem d_JString_indexOf1_23 : decode b_JString_indexOf1 23 = .ok (.aload_n 0, 1) := by decide +kernel
theorem d_JString_indexOf1_24 : decode b_JString_indexOf1 24 = .ok (.getfield 9, 3) := by decide +kernel
theorem d_JString_indexOf1_27 : decode b_JString_indexOf1 27 = .ok (.iload_n 1, 1) := by decide +kernel
theorem d_JString_indexOf1_28 : decode b_JString_indexOf1 28 = .ok (.iload_n 2, 1) := by decide +kernel
theorem d_JString_indexOf1_29 : decode b_JString_indexOf1 29 = .ok (.aload_n 0, 1) := by decide +kernel
theorem d_JString_indexOf1_30 : decode b_JString_indexOf1 30 = .ok (.invokevirtual 505, 3) := by decide +kernel
theorem d_JString_indexOf1_33 : decode b_JString_indexOf1 33 = .ok (.invokestatic 640, 3) := by decide +kernel
theorem d_JString_indexOf1_36 : decode b_JString_indexOf1 36 = .ok (.ireturn, 1) := by decide +kernel
abbrev rm__JString_indexOf1 : Room := { frames := 2, cells := 0, slots := 0, locals := 48 }
set_option maxHeartbeats 4000000 in
set_option maxRecDepth 100000 in
theorem cx_JString_indexOf1 (l : Launch) (G : Gt) (V : Ev) (hfl : l.flags = flags0) (x : Int32) (h0 : ¬ x < 0) (h1 : ¬ 255 < x) : CtX l G V y_JString_indexOf1 (.code y_JString_indexOf1 b_JString_indexOf1 3 (some .int)) rm__JString_indexOf1 [.ref (V.1 3), .int x, .int 0] [] 0 0 (fun o w' => o = .inl (some (.int (o_JStringLatin1_indexOfChar_r x))) ∧ w' = []) := by
  refine CtX.ofF HdOf.code (by decide +kernel) (Nat.le_of_ble_eq_true rfl) (fun p e s m args below meth c A ls H locs hx hb hml hr hnl hown hts hnm hK hA hl hW hE htab => ?_)
  have hl : lv_has ls 3 [(0, .ref (V.1 3)), (1, .int x), (2, .int 0)] := hl
  refine lv_aload_n hx hb d_JString_indexOf1_0 rfl (lv_at hl 0 rfl) ?_
  refine CtX.callK (i := 3) (As := []) (rest := []) hx hb hml hown hts hK hE hA hl.1 hW (cx_JString_isLatin1 l G V hfl 3 (by first | assumption | omega | decide)) (by decide) (sx_w hE 8 rfl rfl) (hts _ w_im_JString_isLatin1) (hts _ w_se_JString_isLatin1) (hts _ w_ini_JString) (hts _ w_code_JString_isLatin1) yd_JString_isLatin1.2 [] (by decide) rfl rfl rfl (Nat.le_of_ble_eq_true rfl) d_JString_indexOf1_1 (by decide) (by decide) rfl rfl ⟨by decide, by decide⟩ (fun o w' hp => by rw [hp.2]; exact Nat.le_of_ble_eq_true rfl) (fun v w' H locs hp hW => ?_) (fun X a cell w' H locs hp => absurd hp.1 (fun h => by cases h))
  obtain ⟨hv, rfl⟩ := hp
  cases hv
  have hW : Wd G A s.heap [] H locs := hW
  refine W.eq (g2 := F0 m 4 ls [.int 1]) rfl ?_
  refine lv_if_eq (tgt := 23) hx hb d_JString_indexOf1_4 rfl (fun hz => absurd hz (by decide)) (fun _ => ?_)
  refine lv_aload_n hx hb d_JString_indexOf1_7 rfl (lv_at hl 0 rfl) ?_
  refine vk_getf hx hb (hE.2.2.1.1.1 3 (by decide)).2.2.1 hW.2.2 hown (sx_w hE 3 rfl rfl) (fun _ h => h) d_JString_indexOf1_8 ?_
  refine lv_iload_n hx hb d_JString_indexOf1_11 rfl (lv_at hl 1 rfl) ?_
  refine lv_iload_n hx hb d_JString_indexOf1_12 rfl (lv_at hl 2 rfl) ?_
  refine lv_aload_n hx hb d_JString_indexOf1_13 rfl (lv_at hl 0 rfl) ?_
  refine CtX.callK (i := 3) (As := []) (rest := [.int 0, .int x, .ref (V.2 3)]) hx hb hml hown hts hK hE hA hl.1 hW (cx_JString_length l G V hfl 3 (by first | assumption | omega | decide)) (by decide) (sx_w hE 11 rfl rfl) (hts _ w_im_JString_length) (hts _ w_se_JString_length) (hts _ w_ini_JString) (hts _ w_code_JString_length) yd_JString_length.2 [] (by decide) rfl rfl rfl (Nat.le_of_ble_eq_true rfl) d_JString_indexOf1_14 (by decide) (by decide) rfl rfl ⟨by decide, by decide⟩ (fun o w' hp => by rw [hp.2]; exact Nat.le_of_ble_eq_true rfl) (fun v w' H locs hp hW => ?_) (fun X a cell w' H locs hp => absurd hp.1 (fun h => by cases h))
  obtain ⟨hv, rfl⟩ := hp
  cases hv
  have hW : Wd G A s.heap [] H locs := hW
  refine W.eq (g2 := F0 m 17 ls [.int (nI (sLen.getD 3 0)), .int 0, .int x, .ref (V.2 3)]) rfl ?_
  refine lv_topi (fun cz ez => ?_)
  obtain rfl : cz = 9 := ez.trans (by decide)
  refine CtX.callS (As := [.ref (V.2 3), .int x, .int 0, .int 9]) (rest := []) hx hb hml hown hts hK hE hA hl.1 hW (cx_L1_indexOf l G V hfl x (by first | assumption | omega | decide) (by first | assumption | omega | decide)) HdOf.code rfl (sx_w hE 12 rfl rfl) (sx_w hE 19 rfl rfl) (hts _ w_ini_JStringLatin1) (sx_w hE 20 rfl rfl) yd_L1_indexOf.2 [] (by decide) rfl rfl rfl (Nat.le_of_ble_eq_true rfl) d_JString_indexOf1_17 (by decide) (by decide) rfl rfl ⟨by decide, by decide⟩ (fun o w' hp => by rw [hp.2]; exact Nat.le_of_ble_eq_true rfl) (fun v w' H locs hp hW => ?_) (fun X a cell w' H locs hp => absurd hp.1 (fun h => by cases h))
  obtain ⟨hv, rfl⟩ := hp
  cases hv
  have hW : Wd G A s.heap [] H locs := hW
  refine W.eq (g2 := F0 m 20 ls [.int (o_JStringLatin1_indexOfChar_r x)]) rfl ?_
  refine lv_goto (tgt := 36) hx hb d_JString_indexOf1_20 rfl ?_
  exact CtX.iret hx hb hr hnl hW (by decide) (by decide) d_JString_indexOf1_36 ⟨rfl, rfl⟩

theorem d_JString_indexOf0_0 : decode b_JString_indexOf0 0 = .ok (.aload_n 0, 1) := by decide +kernel
theorem d_JString_indexOf0_1 : decode b_JString_indexOf0 1 = .ok (.iload_n 1, 1) := by decide +kernel
theorem d_JString_indexOf0_2 : decode b_JString_indexOf0 2 = .ok (.iconst 0, 1) := by decide +kernel
theorem d_JString_indexOf0_3 : decode b_JString_indexOf0 3 = .ok (.invokevirtual 633, 3) := by decide +kernel
theorem d_JString_indexOf0_6 : decode b_JString_indexOf0 6 = .ok (.ireturn, 1) := by decide +kernel
abbrev rm__JString_indexOf0 : Room := { frames := 3, cells := 0, slots := 0, locals := 70 }
set_option maxHeartbeats 4000000 in
set_option maxRecDepth 100000 in
theorem cx_JString_indexOf0 (l : Launch) (G : Gt) (V : Ev) (hfl : l.flags = flags0) (x : Int32) (h0 : ¬ x < 0) (h1 : ¬ 255 < x) : CtX l G V y_JString_indexOf0 (.code y_JString_indexOf0 b_JString_indexOf0 2 (some .int)) rm__JString_indexOf0 [.ref (V.1 3), .int x] [] 0 0 (fun o w' => o = .inl (some (.int (o_JStringLatin1_indexOfChar_r x))) ∧ w' = []) := by
  refine CtX.ofF HdOf.code (by decide +kernel) (Nat.le_of_ble_eq_true rfl) (fun p e s m args below meth c A ls H locs hx hb hml hr hnl hown hts hnm hK hA hl hW hE htab => ?_)
  have hl : lv_has ls 2 [(0, .ref (V.1 3)), (1, .int x)] := hl
  refine lv_aload_n hx hb d_JString_indexOf0_0 rfl (lv_at hl 0 rfl) ?_
  refine lv_iload_n hx hb d_JString_indexOf0_1 rfl (lv_at hl 1 rfl) ?_
  refine lv_iconst (v := 0) hx hb d_JString_indexOf0_2 (by decide) ?_
  refine CtX.callK (i := 3) (As := [.int x, .int 0]) (rest := []) hx hb hml hown hts hK hE hA hl.1 hW (cx_JString_indexOf1 l G V hfl x (by first | assumption | omega | decide) (by first | assumption | omega | decide)) (by decide) (sx_w hE 10 rfl rfl) (hts _ w_im_JString_indexOf1) (hts _ w_se_JString_indexOf1) (hts _ w_ini_JString) (hts _ w_code_JString_indexOf1) yd_JString_indexOf1.2 [] (by decide) rfl rfl rfl (Nat.le_of_ble_eq_true rfl) d_JString_indexOf0_3 (by decide) (by decide) rfl rfl ⟨by decide, by decide⟩ (fun o w' hp => by rw [hp.2]; exact Nat.le_of_ble_eq_true rfl) (fun v w' H locs hp hW => ?_) (fun X a cell w' H locs hp => absurd hp.1 (fun h => by cases h))
  obtain ⟨hv, rfl⟩ := hp
  cases hv
  have hW : Wd G A s.heap [] H locs := hW
  refine W.eq (g2 := F0 m 6 ls [.int (o_JStringLatin1_indexOfChar_r x)]) rfl ?_
  exact CtX.iret hx hb hr hnl hW (by decide) (by decide) d_JString_indexOf0_6 ⟨rfl, rfl⟩

