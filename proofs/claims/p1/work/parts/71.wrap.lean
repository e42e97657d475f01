/-! calls over blocks of methods that may throw -/
section CXB
variable {p : Program} {l : Launch} {e : Env} {R : Room} {s : State} {m : MethodId} {args : Array Value} {below : List Frame} {meth : Method} {c : Code} {H : Heap} {locs : List Loc} {cells slots : Nat} {Q : State → Prop}
variable {cc : ByteArray} {pc : Nat} {ls : Array Slot} {rest st0 : List Value} {G : Gt} {V : Ev} {A : Nat → Prop} {ws wc wr w' : va_W} {mc ms : Nat} {post : Ot → va_W → Prop}
theorem CtX.callVB {y : MethodName} {rm : Room} {bc : ByteArray} {mL nL n index : Nat} {ret : Option FieldType} {own C : String} {b : Nat} {As : List Value} (hx : p.tables.exec = Jvm.exec) (hb : c.code = cc) (hml : c.maxLocals = nL) (hown : s.vm.findClass own = some m.cls) (hts : ∀ w ∈ wsA, w.before args s = true) (hK : KX G s) (hE : EX V A s s.heap) (hA : ∀ q, s.heap.size ≤ q → A q) (hsz : ls.size = nL) (hW : Wd G A s.heap ws H locs) (hpm : (wc ++ wr).Perm ws)
    (hM : CtX l G V y (.code y bc mL ret) rm (.ref b :: As) wc mc ms post) (h1 : Cond.methodLink own index y ∈ wsA) (h2 : Cond.instanceMethod y ∈ wsA) (h3 : Cond.selects C y y ∈ wsA) (h4 : Cond.initialized y.cls ∈ wsA) (h5 : Cond.code y bc mL ret ∈ wsA) (hy : y.cls ≠ "java/lang/invoke/MethodHandle" ∧ y.cls ≠ "java/lang/invoke/VarHandle" ∧ (parseMethodDescriptor y.desc).map (fun d => d.parameters.length) = some n)
    {ci : Nat} {r : vw_C} {fs : List Value} (hci : vcl[ci]? = some r) (hrcl : r.1 = C) (h0 : wc[0]? = some (b, .inr (ci, fs)))
    (hAs : As.length = n) (hst : st0 = As.reverse ++ .ref b :: rest) (hroom : (rest.map fun v => v.category).sum ≤ 8) (hdg : decode cc pc = .ok (.invokevirtual index, 3)) (hfr : rm.frames + 1 ≤ R.frames) (hlo : 8 + (mL + 11) + rm.locals ≤ R.locals) (hrc : rm.cells = mc) (hrs : rm.slots = ms) (hf : cells + mc ≤ R.cells ∧ slots + ms ≤ R.slots) (hlen : ∀ o w', post o w' → wc.length ≤ w'.length)
    (kr : ∀ (v : Option Value) (w' : va_W) (H1 : Heap) (locs1 : List Loc), post (.inl v) w' → Wd G A s.heap (wr ++ w') H1 locs1 → W p l e R s m args below meth c H1 locs1 (cells + mc) (slots + ms) Q (F0 m (pc + 3) ls (v.toList ++ rest)))
    (kt : ∀ (X : String) (a : Nat) (cell : Cell) (w' : va_W) (H1 : Heap) (locs1 : List Loc), post (.inr X) w' → Wd G A s.heap (wr ++ w') H1 locs1 → H1[a]? = some cell → cell.vm.isStatics = false → s.vm.findClass X = some cell.cls → WT p l e R s m args below meth c H1 locs1 (cells + mc) (slots + ms) Q (F0 m pc ls rest) a) : W p l e R s m args below meth c H locs cells slots Q (F0 m pc ls st0) :=
  CtX.callV hx hb hml hown hts hK hE hA hsz (hW.perm hpm) hM h1 h2 h3 h4 h5 hy (List.range' 0 wc.length) (va_nd_range' _ _) (range_pick wc wr) hci hrcl h0 hAs hst hroom hdg hfr hlo hrc hrs hf hlen (fun v w' H1 l1 hp hW' => kr v w' H1 l1 hp (hW'.putR (hlen _ w' hp))) (fun X a cell w' H1 l1 hp hW' => kt X a cell w' H1 l1 hp (hW'.putR (hlen _ w' hp)))
theorem CtX.callSB {y : MethodName} {hd : Cond} {hs : List (Nat × Nat × Nat × Nat)} {rm : Room} {bc : ByteArray} {mL nL n index : Nat} {ret : Option FieldType} {own : String} {As : List Value} (hx : p.tables.exec = Jvm.exec) (hb : c.code = cc) (hml : c.maxLocals = nL) (hown : s.vm.findClass own = some m.cls) (hts : ∀ w ∈ wsA, w.before args s = true) (hK : KX G s) (hE : EX V A s s.heap) (hA : ∀ q, s.heap.size ≤ q → A q) (hsz : ls.size = nL) (hW : Wd G A s.heap ws H locs) (hpm : (wc ++ wr).Perm ws)
    (hM : CtX l G V y hd rm As wc mc ms post) (hH : HdOf y hd bc mL ret hs) (hgd : (hd.onTables && hd.keeps) = true) (h1 : (Cond.methodLink own index y).before args s = true) (h2 : (Cond.static y).before args s = true) (h4 : (Cond.initialized y.cls).before args s = true) (h5 : hd.before args s = true) (hy : y.cls ≠ "java/lang/invoke/MethodHandle" ∧ y.cls ≠ "java/lang/invoke/VarHandle" ∧ (parseMethodDescriptor y.desc).map (fun d => d.parameters.length) = some n)
    (hAs : As.length = n) (hst : st0 = As.reverse ++ rest) (hroom : (rest.map fun v => v.category).sum ≤ 8) (hdg : decode cc pc = .ok (.invokestatic index, 3)) (hfr : rm.frames + 1 ≤ R.frames) (hlo : 8 + (mL + 11) + rm.locals ≤ R.locals) (hrc : rm.cells = mc) (hrs : rm.slots = ms) (hf : cells + mc ≤ R.cells ∧ slots + ms ≤ R.slots) (hlen : ∀ o w', post o w' → wc.length ≤ w'.length)
    (kr : ∀ (v : Option Value) (w' : va_W) (H1 : Heap) (locs1 : List Loc), post (.inl v) w' → Wd G A s.heap (wr ++ w') H1 locs1 → W p l e R s m args below meth c H1 locs1 (cells + mc) (slots + ms) Q (F0 m (pc + 3) ls (v.toList ++ rest)))
    (kt : ∀ (X : String) (a : Nat) (cell : Cell) (w' : va_W) (H1 : Heap) (locs1 : List Loc), post (.inr X) w' → Wd G A s.heap (wr ++ w') H1 locs1 → H1[a]? = some cell → cell.vm.isStatics = false → s.vm.findClass X = some cell.cls → WT p l e R s m args below meth c H1 locs1 (cells + mc) (slots + ms) Q (F0 m pc ls rest) a) : W p l e R s m args below meth c H locs cells slots Q (F0 m pc ls st0) :=
  CtX.callS hx hb hml hown hts hK hE hA hsz (hW.perm hpm) hM hH hgd h1 h2 h4 h5 hy (List.range' 0 wc.length) (va_nd_range' _ _) (range_pick wc wr) hAs hst hroom hdg hfr hlo hrc hrs hf hlen (fun v w' H1 l1 hp hW' => kr v w' H1 l1 hp (hW'.putR (hlen _ w' hp))) (fun X a cell w' H1 l1 hp hW' => kt X a cell w' H1 l1 hp (hW'.putR (hlen _ w' hp)))
end CXB
/-- a smaller room's contract serves a larger room -/
theorem CtX.weaken {l : Launch} {G : Gt} {V : Ev} {y : MethodName} {hd : Cond} {rm : Room} {av : List Value} {w : va_W} {mc ms : Nat} {post post' : Ot → va_W → Prop} (hM : CtX l G V y hd rm av w mc ms post) (h : ∀ o w', post o w' → post' o w') : CtX l G V y hd rm av w mc ms post' := by
  intro sz p e h1 h2 h3 s m args below h4 h5 hP hK
  obtain ⟨n, o, a1, a2, a3, ⟨⟨ot, w1, hv, hp, hP1, hD1⟩, hz⟩, r⟩ := hM sz p e h1 h2 h3 s m args below h4 h5 hP trivial
  exact ⟨n, o, a1, a2, a3, ⟨⟨ot, w1, hv, h _ _ hp, hP1, hD1⟩, hz⟩, r⟩

abbrev b_Law_compile : ByteArray := method_3_code
def y_Law_compile : MethodName := ⟨"ThreeClerksLaw", "compile", "(LThreeClerks;[J)I"⟩
theorem yd_Law_compile : y_Law_compile.cls ≠ "java/lang/invoke/MethodHandle" ∧ y_Law_compile.cls ≠ "java/lang/invoke/VarHandle" ∧ (parseMethodDescriptor y_Law_compile.desc).map (fun d => d.parameters.length) = some 2 := by decide +kernel
abbrev hd_Law_compile : Cond := .codeWith y_Law_compile b_Law_compile 3 (some .int) [(0, 8, 11, 13)]
theorem d_Law_compile_0 : decode b_Law_compile 0 = .ok (.aload_n 1, 1) := by decide +kernel
theorem d_Law_compile_1 : decode b_Law_compile 1 = .ok (.iconst 0, 1) := by decide +kernel
theorem d_Law_compile_2 : decode b_Law_compile 2 = .ok (.aload_n 0, 1) := by decide +kernel
theorem d_Law_compile_3 : decode b_Law_compile 3 = .ok (.invokevirtual 7, 3) := by decide +kernel
theorem d_Law_compile_6 : decode b_Law_compile 6 = .ok (.i2l, 1) := by decide +kernel
theorem d_Law_compile_7 : decode b_Law_compile 7 = .ok (.lastore, 1) := by decide +kernel
theorem d_Law_compile_8 : decode b_Law_compile 8 = .ok (.goto 6, 3) := by decide +kernel
theorem d_Law_compile_11 : decode b_Law_compile 11 = .ok (.astore_n 2, 1) := by decide +kernel
theorem d_Law_compile_12 : decode b_Law_compile 12 = .ok (.iconst 1, 1) := by decide +kernel
theorem d_Law_compile_13 : decode b_Law_compile 13 = .ok (.ireturn, 1) := by decide +kernel
theorem d_Law_compile_14 : decode b_Law_compile 14 = .ok (.iconst 0, 1) := by decide +kernel
theorem d_Law_compile_15 : decode b_Law_compile 15 = .ok (.ireturn, 1) := by decide +kernel
set_option maxHeartbeats 1000000 in
theorem wr_compile_ret {l : Launch} {G : Gt} {V : Ev} {rm : Room} {wc wt : va_W} {mc ms : Nat} {fs : List Value} (b : Nat)  (q : Nat) (fo : Nat → Int64) (v0 : Int32) (hM : CtX l G V y_TC_compile (.code y_TC_compile b_TC_compile 1 (some .int)) rm [.ref b] wc mc ms (fun o w' => o = .inl (some (.int v0)) ∧ w' = wt)) (h0 : wc[0]? = some (b, .inr (0, fs))) (hln : wc.length ≤ wt.length) (hrc : rm.cells = mc) (hrs : rm.slots = ms) (RW : Room) (hRf : rm.frames + 1 ≤ RW.frames) (hRl : 20 + rm.locals ≤ RW.locals) (hRc : RW.cells = mc) (hRs : RW.slots = ms) :
    CtX l G V y_Law_compile hd_Law_compile RW [.ref b, .ref q] ([(q, .inl (G.2 1, 1, .inr (.inl fo)))] ++ wc) mc ms (fun o w' => o = .inl (some (.int 0)) ∧ w' = ([(q, .inl (G.2 1, 1, .inr (.inl (vp_updL fo 0 v0.toInt64))))] ++ wt)) := by
  refine CtX.of HdOf.codeWith (by decide) (Nat.le_of_ble_eq_true rfl) (fun p e s m args below meth c A ls H locs hx hb hml hr hnl hown hts hnm hK hA hl hW hE htab => ?_)
  have hl : lv_has ls 3 [(0, .ref b), (1, .ref q)] := hl
  have hW : Wd G A s.heap ([(q, .inl (G.2 1, 1, .inr (.inl fo)))] ++ wc) H locs := hW
  refine lv_aload_n hx hb d_Law_compile_0 rfl (lv_at hl 1 rfl) ?_
  refine lv_iconst (v := 0) hx hb d_Law_compile_1 (by decide) ?_
  refine lv_aload_n hx hb d_Law_compile_2 rfl (lv_at hl 0 rfl) ?_
  refine CtX.callVB (As := []) (rest := [.int 0, .ref q]) (wr := [(q, .inl (G.2 1, 1, .inr (.inl fo)))]) (wc := wc) hx hb hml hown hts hK hE hA hl.1 hW (List.perm_append_comm) hM w_ml_Law_7 w_im_TC_compile w_se_TC_compile w_ini_TC w_code_TC_compile yd_TC_compile.2 (ci := 0) (r := vr_TC) rfl rfl h0 rfl rfl (Nat.le_of_ble_eq_true rfl) d_Law_compile_3 hRf hRl hrc hrs ⟨by rw [hRc]; omega, by rw [hRs]; omega⟩ (fun o w' hp => by rw [hp.2]; exact hln) (fun v w' H locs hp hW => ?_) (fun X a cell w' H locs hp hW hcell hobj hcls => ?_)
  · obtain ⟨hv, rfl⟩ := hp
    cases hv
    refine W.eq (g2 := F0 m 6 ls [.int v0, .int 0, .ref q]) rfl ?_
    refine lv_i2l (v := v0.toInt64) hx hb d_Law_compile_6 rfl ?_
    refine Wd.last hx hb hK hW 0 d_Law_compile_7 rfl (by unfold vp_in; decide) (fun H locs hW => ?_)
    have hW : Wd G A s.heap ([(q, .inl (G.2 1, 1, .inr (.inl (vp_updL fo 0 v0.toInt64))))] ++ w') H locs := hW
    refine lv_goto (tgt := 14) hx hb d_Law_compile_8 rfl ?_
    refine lv_iconst (v := 0) hx hb d_Law_compile_14 (by decide) ?_
    exact CtX.iret hx hb hr hnl hW (by omega) (by omega) d_Law_compile_15 ⟨rfl, rfl⟩
  · exact absurd hp.1 (fun h => by cases h)
set_option maxHeartbeats 1000000 in
theorem wr_compile_thr {l : Launch} {G : Gt} {V : Ev} {rm : Room} {wc wt : va_W} {mc ms : Nat} {fs : List Value} (b : Nat)  (q : Nat) (fo : Nat → Int64) (hM : CtX l G V y_TC_compile (.code y_TC_compile b_TC_compile 1 (some .int)) rm [.ref b] wc mc ms (fun o w' => o = .inr "java/lang/IllegalArgumentException" ∧ w' = wt)) (h0 : wc[0]? = some (b, .inr (0, fs))) (hln : wc.length ≤ wt.length) (hrc : rm.cells = mc) (hrs : rm.slots = ms) (RW : Room) (hRf : rm.frames + 1 ≤ RW.frames) (hRl : 20 + rm.locals ≤ RW.locals) (hRc : RW.cells = mc) (hRs : RW.slots = ms) :
    CtX l G V y_Law_compile hd_Law_compile RW [.ref b, .ref q] ([(q, .inl (G.2 1, 1, .inr (.inl fo)))] ++ wc) mc ms (fun o w' => o = .inl (some (.int 1)) ∧ w' = ([(q, .inl (G.2 1, 1, .inr (.inl fo)))] ++ wt)) := by
  refine CtX.of HdOf.codeWith (by decide) (Nat.le_of_ble_eq_true rfl) (fun p e s m args below meth c A ls H locs hx hb hml hr hnl hown hts hnm hK hA hl hW hE htab => ?_)
  have hl : lv_has ls 3 [(0, .ref b), (1, .ref q)] := hl
  have hW : Wd G A s.heap ([(q, .inl (G.2 1, 1, .inr (.inl fo)))] ++ wc) H locs := hW
  refine lv_aload_n hx hb d_Law_compile_0 rfl (lv_at hl 1 rfl) ?_
  refine lv_iconst (v := 0) hx hb d_Law_compile_1 (by decide) ?_
  refine lv_aload_n hx hb d_Law_compile_2 rfl (lv_at hl 0 rfl) ?_
  refine CtX.callVB (As := []) (rest := [.int 0, .ref q]) (wr := [(q, .inl (G.2 1, 1, .inr (.inl fo)))]) (wc := wc) hx hb hml hown hts hK hE hA hl.1 hW (List.perm_append_comm) hM w_ml_Law_7 w_im_TC_compile w_se_TC_compile w_ini_TC w_code_TC_compile yd_TC_compile.2 (ci := 0) (r := vr_TC) rfl rfl h0 rfl rfl (Nat.le_of_ble_eq_true rfl) d_Law_compile_3 hRf hRl hrc hrs ⟨by rw [hRc]; omega, by rw [hRs]; omega⟩ (fun o w' hp => by rw [hp.2]; exact hln) (fun v w' H locs hp hW => ?_) (fun X a cell w' H locs hp hW hcell hobj hcls => ?_)
  · exact absurd hp.1 (fun h => by cases h)
  · obtain ⟨hv, rfl⟩ := hp
    cases hv
    refine WT.catch hb htab (by decide) (by decide) (by decide) hown (va_Nw.use rfl (hE.2.2.2.2.2.2 _ (List.mem_of_getElem? (i := 0) rfl))) hcell hobj hcls ?_
    refine lv_astore_n (lv' := [(2, .ref a), (0, .ref b), (1, .ref q)]) hx hb d_Law_compile_11 rfl hl (by decide) rfl (fun ls hl => ?_)
    refine lv_iconst (v := 1) hx hb d_Law_compile_12 (by decide) ?_
    exact CtX.iret hx hb hr hnl hW (by omega) (by omega) d_Law_compile_13 ⟨rfl, rfl⟩
abbrev b_Law_input : ByteArray := method_4_code
def y_Law_input : MethodName := ⟨"ThreeClerksLaw", "input", "(LThreeClerks;II)I"⟩
theorem yd_Law_input : y_Law_input.cls ≠ "java/lang/invoke/MethodHandle" ∧ y_Law_input.cls ≠ "java/lang/invoke/VarHandle" ∧ (parseMethodDescriptor y_Law_input.desc).map (fun d => d.parameters.length) = some 3 := by decide +kernel
abbrev hd_Law_input : Cond := .codeWith y_Law_input b_Law_input 4 (some .int) [(0, 6, 9, 13)]
theorem d_Law_input_0 : decode b_Law_input 0 = .ok (.aload_n 0, 1) := by decide +kernel
theorem d_Law_input_1 : decode b_Law_input 1 = .ok (.iload_n 1, 1) := by decide +kernel
theorem d_Law_input_2 : decode b_Law_input 2 = .ok (.iload_n 2, 1) := by decide +kernel
theorem d_Law_input_3 : decode b_Law_input 3 = .ok (.invokevirtual 15, 3) := by decide +kernel
theorem d_Law_input_6 : decode b_Law_input 6 = .ok (.goto 6, 3) := by decide +kernel
theorem d_Law_input_9 : decode b_Law_input 9 = .ok (.astore_n 3, 1) := by decide +kernel
theorem d_Law_input_10 : decode b_Law_input 10 = .ok (.iconst 1, 1) := by decide +kernel
theorem d_Law_input_11 : decode b_Law_input 11 = .ok (.ireturn, 1) := by decide +kernel
theorem d_Law_input_12 : decode b_Law_input 12 = .ok (.iconst 0, 1) := by decide +kernel
theorem d_Law_input_13 : decode b_Law_input 13 = .ok (.ireturn, 1) := by decide +kernel
set_option maxHeartbeats 1000000 in
theorem wr_input_ret {l : Launch} {G : Gt} {V : Ev} {rm : Room} {wc wt : va_W} {mc ms : Nat} {fs : List Value} (b : Nat) (x : Int32) (y : Int32) (hM : CtX l G V y_TC_input (.code y_TC_input b_TC_input 3 none) rm [.ref b, .int x, .int y] wc mc ms (fun o w' => o = .inl none ∧ w' = wt)) (h0 : wc[0]? = some (b, .inr (0, fs))) (hln : wc.length ≤ wt.length) (hrc : rm.cells = mc) (hrs : rm.slots = ms) (RW : Room) (hRf : rm.frames + 1 ≤ RW.frames) (hRl : 22 + rm.locals ≤ RW.locals) (hRc : RW.cells = mc) (hRs : RW.slots = ms) :
    CtX l G V y_Law_input hd_Law_input RW [.ref b, .int x, .int y] (wc) mc ms (fun o w' => o = .inl (some (.int 0)) ∧ w' = (wt)) := by
  refine CtX.of HdOf.codeWith (by decide) (Nat.le_of_ble_eq_true rfl) (fun p e s m args below meth c A ls H locs hx hb hml hr hnl hown hts hnm hK hA hl hW hE htab => ?_)
  have hl : lv_has ls 4 [(0, .ref b), (1, .int x), (2, .int y)] := hl
  refine lv_aload_n hx hb d_Law_input_0 rfl (lv_at hl 0 rfl) ?_
  refine lv_iload_n hx hb d_Law_input_1 rfl (lv_at hl 1 rfl) ?_
  refine lv_iload_n hx hb d_Law_input_2 rfl (lv_at hl 2 rfl) ?_
  refine CtX.callVB (As := [.int x, .int y]) (rest := []) (wr := []) (wc := wc) hx hb hml hown hts hK hE hA hl.1 hW (by simp) hM w_ml_Law_15 w_im_TC_input w_se_TC_input w_ini_TC w_code_TC_input yd_TC_input.2 (ci := 0) (r := vr_TC) rfl rfl h0 rfl rfl (Nat.le_of_ble_eq_true rfl) d_Law_input_3 hRf hRl hrc hrs ⟨by rw [hRc]; omega, by rw [hRs]; omega⟩ (fun o w' hp => by rw [hp.2]; exact hln) (fun v w' H locs hp hW => ?_) (fun X a cell w' H locs hp hW hcell hobj hcls => ?_)
  · obtain ⟨hv, rfl⟩ := hp
    cases hv
    refine W.eq (g2 := F0 m 6 ls []) rfl ?_
    refine lv_goto (tgt := 12) hx hb d_Law_input_6 rfl ?_
    refine lv_iconst (v := 0) hx hb d_Law_input_12 (by decide) ?_
    exact CtX.iret hx hb hr hnl hW (by omega) (by omega) d_Law_input_13 ⟨rfl, rfl⟩
  · exact absurd hp.1 (fun h => by cases h)
set_option maxHeartbeats 1000000 in
theorem wr_input_thr {l : Launch} {G : Gt} {V : Ev} {rm : Room} {wc wt : va_W} {mc ms : Nat} {fs : List Value} (b : Nat) (x : Int32) (y : Int32) (hM : CtX l G V y_TC_input (.code y_TC_input b_TC_input 3 none) rm [.ref b, .int x, .int y] wc mc ms (fun o w' => o = .inr "java/lang/IllegalArgumentException" ∧ w' = wt)) (h0 : wc[0]? = some (b, .inr (0, fs))) (hln : wc.length ≤ wt.length) (hrc : rm.cells = mc) (hrs : rm.slots = ms) (RW : Room) (hRf : rm.frames + 1 ≤ RW.frames) (hRl : 22 + rm.locals ≤ RW.locals) (hRc : RW.cells = mc) (hRs : RW.slots = ms) :
    CtX l G V y_Law_input hd_Law_input RW [.ref b, .int x, .int y] (wc) mc ms (fun o w' => o = .inl (some (.int 1)) ∧ w' = (wt)) := by
  refine CtX.of HdOf.codeWith (by decide) (Nat.le_of_ble_eq_true rfl) (fun p e s m args below meth c A ls H locs hx hb hml hr hnl hown hts hnm hK hA hl hW hE htab => ?_)
  have hl : lv_has ls 4 [(0, .ref b), (1, .int x), (2, .int y)] := hl
  refine lv_aload_n hx hb d_Law_input_0 rfl (lv_at hl 0 rfl) ?_
  refine lv_iload_n hx hb d_Law_input_1 rfl (lv_at hl 1 rfl) ?_
  refine lv_iload_n hx hb d_Law_input_2 rfl (lv_at hl 2 rfl) ?_
  refine CtX.callVB (As := [.int x, .int y]) (rest := []) (wr := []) (wc := wc) hx hb hml hown hts hK hE hA hl.1 hW (by simp) hM w_ml_Law_15 w_im_TC_input w_se_TC_input w_ini_TC w_code_TC_input yd_TC_input.2 (ci := 0) (r := vr_TC) rfl rfl h0 rfl rfl (Nat.le_of_ble_eq_true rfl) d_Law_input_3 hRf hRl hrc hrs ⟨by rw [hRc]; omega, by rw [hRs]; omega⟩ (fun o w' hp => by rw [hp.2]; exact hln) (fun v w' H locs hp hW => ?_) (fun X a cell w' H locs hp hW hcell hobj hcls => ?_)
  · exact absurd hp.1 (fun h => by cases h)
  · obtain ⟨hv, rfl⟩ := hp
    cases hv
    refine WT.catch hb htab (by decide) (by decide) (by decide) hown (va_Nw.use rfl (hE.2.2.2.2.2.2 _ (List.mem_of_getElem? (i := 0) rfl))) hcell hobj hcls ?_
    refine lv_astore_n (lv' := [(3, .ref a), (0, .ref b), (1, .int x), (2, .int y)]) hx hb d_Law_input_9 rfl hl (by decide) rfl (fun ls hl => ?_)
    refine lv_iconst (v := 1) hx hb d_Law_input_10 (by decide) ?_
    exact CtX.iret hx hb hr hnl hW (by omega) (by omega) d_Law_input_11 ⟨rfl, rfl⟩
abbrev b_Law_seed : ByteArray := method_5_code
def y_Law_seed : MethodName := ⟨"ThreeClerksLaw", "seed", "(LThreeClerks;III)I"⟩
theorem yd_Law_seed : y_Law_seed.cls ≠ "java/lang/invoke/MethodHandle" ∧ y_Law_seed.cls ≠ "java/lang/invoke/VarHandle" ∧ (parseMethodDescriptor y_Law_seed.desc).map (fun d => d.parameters.length) = some 4 := by decide +kernel
abbrev hd_Law_seed : Cond := .codeWith y_Law_seed b_Law_seed 5 (some .int) [(0, 7, 10, 13)]
theorem d_Law_seed_0 : decode b_Law_seed 0 = .ok (.aload_n 0, 1) := by decide +kernel
theorem d_Law_seed_1 : decode b_Law_seed 1 = .ok (.iload_n 1, 1) := by decide +kernel
theorem d_Law_seed_2 : decode b_Law_seed 2 = .ok (.iload_n 2, 1) := by decide +kernel
theorem d_Law_seed_3 : decode b_Law_seed 3 = .ok (.iload_n 3, 1) := by decide +kernel
theorem d_Law_seed_4 : decode b_Law_seed 4 = .ok (.invokevirtual 19, 3) := by decide +kernel
theorem d_Law_seed_7 : decode b_Law_seed 7 = .ok (.goto 7, 3) := by decide +kernel
theorem d_Law_seed_10 : decode b_Law_seed 10 = .ok (.astore 4, 2) := by decide +kernel
theorem d_Law_seed_12 : decode b_Law_seed 12 = .ok (.iconst 1, 1) := by decide +kernel
theorem d_Law_seed_13 : decode b_Law_seed 13 = .ok (.ireturn, 1) := by decide +kernel
theorem d_Law_seed_14 : decode b_Law_seed 14 = .ok (.iconst 0, 1) := by decide +kernel
theorem d_Law_seed_15 : decode b_Law_seed 15 = .ok (.ireturn, 1) := by decide +kernel
set_option maxHeartbeats 1000000 in
theorem wr_seed_ret {l : Launch} {G : Gt} {V : Ev} {rm : Room} {wc wt : va_W} {mc ms : Nat} {fs : List Value} (b : Nat) (x : Int32) (y : Int32) (z : Int32) (hM : CtX l G V y_TC_seed (.code y_TC_seed b_TC_seed 4 none) rm [.ref b, .int x, .int y, .int z] wc mc ms (fun o w' => o = .inl none ∧ w' = wt)) (h0 : wc[0]? = some (b, .inr (0, fs))) (hln : wc.length ≤ wt.length) (hrc : rm.cells = mc) (hrs : rm.slots = ms) (RW : Room) (hRf : rm.frames + 1 ≤ RW.frames) (hRl : 23 + rm.locals ≤ RW.locals) (hRc : RW.cells = mc) (hRs : RW.slots = ms) :
    CtX l G V y_Law_seed hd_Law_seed RW [.ref b, .int x, .int y, .int z] (wc) mc ms (fun o w' => o = .inl (some (.int 0)) ∧ w' = (wt)) := by
  refine CtX.of HdOf.codeWith (by decide) (Nat.le_of_ble_eq_true rfl) (fun p e s m args below meth c A ls H locs hx hb hml hr hnl hown hts hnm hK hA hl hW hE htab => ?_)
  have hl : lv_has ls 5 [(0, .ref b), (1, .int x), (2, .int y), (3, .int z)] := hl
  refine lv_aload_n hx hb d_Law_seed_0 rfl (lv_at hl 0 rfl) ?_
  refine lv_iload_n hx hb d_Law_seed_1 rfl (lv_at hl 1 rfl) ?_
  refine lv_iload_n hx hb d_Law_seed_2 rfl (lv_at hl 2 rfl) ?_
  refine lv_iload_n hx hb d_Law_seed_3 rfl (lv_at hl 3 rfl) ?_
  refine CtX.callVB (As := [.int x, .int y, .int z]) (rest := []) (wr := []) (wc := wc) hx hb hml hown hts hK hE hA hl.1 hW (by simp) hM w_ml_Law_19 w_im_TC_seed w_se_TC_seed w_ini_TC w_code_TC_seed yd_TC_seed.2 (ci := 0) (r := vr_TC) rfl rfl h0 rfl rfl (Nat.le_of_ble_eq_true rfl) d_Law_seed_4 hRf hRl hrc hrs ⟨by rw [hRc]; omega, by rw [hRs]; omega⟩ (fun o w' hp => by rw [hp.2]; exact hln) (fun v w' H locs hp hW => ?_) (fun X a cell w' H locs hp hW hcell hobj hcls => ?_)
  · obtain ⟨hv, rfl⟩ := hp
    cases hv
    refine W.eq (g2 := F0 m 7 ls []) rfl ?_
    refine lv_goto (tgt := 14) hx hb d_Law_seed_7 rfl ?_
    refine lv_iconst (v := 0) hx hb d_Law_seed_14 (by decide) ?_
    exact CtX.iret hx hb hr hnl hW (by omega) (by omega) d_Law_seed_15 ⟨rfl, rfl⟩
  · exact absurd hp.1 (fun h => by cases h)
set_option maxHeartbeats 1000000 in
theorem wr_seed_thr {l : Launch} {G : Gt} {V : Ev} {rm : Room} {wc wt : va_W} {mc ms : Nat} {fs : List Value} (b : Nat) (x : Int32) (y : Int32) (z : Int32) (hM : CtX l G V y_TC_seed (.code y_TC_seed b_TC_seed 4 none) rm [.ref b, .int x, .int y, .int z] wc mc ms (fun o w' => o = .inr "java/lang/IllegalArgumentException" ∧ w' = wt)) (h0 : wc[0]? = some (b, .inr (0, fs))) (hln : wc.length ≤ wt.length) (hrc : rm.cells = mc) (hrs : rm.slots = ms) (RW : Room) (hRf : rm.frames + 1 ≤ RW.frames) (hRl : 23 + rm.locals ≤ RW.locals) (hRc : RW.cells = mc) (hRs : RW.slots = ms) :
    CtX l G V y_Law_seed hd_Law_seed RW [.ref b, .int x, .int y, .int z] (wc) mc ms (fun o w' => o = .inl (some (.int 1)) ∧ w' = (wt)) := by
  refine CtX.of HdOf.codeWith (by decide) (Nat.le_of_ble_eq_true rfl) (fun p e s m args below meth c A ls H locs hx hb hml hr hnl hown hts hnm hK hA hl hW hE htab => ?_)
  have hl : lv_has ls 5 [(0, .ref b), (1, .int x), (2, .int y), (3, .int z)] := hl
  refine lv_aload_n hx hb d_Law_seed_0 rfl (lv_at hl 0 rfl) ?_
  refine lv_iload_n hx hb d_Law_seed_1 rfl (lv_at hl 1 rfl) ?_
  refine lv_iload_n hx hb d_Law_seed_2 rfl (lv_at hl 2 rfl) ?_
  refine lv_iload_n hx hb d_Law_seed_3 rfl (lv_at hl 3 rfl) ?_
  refine CtX.callVB (As := [.int x, .int y, .int z]) (rest := []) (wr := []) (wc := wc) hx hb hml hown hts hK hE hA hl.1 hW (by simp) hM w_ml_Law_19 w_im_TC_seed w_se_TC_seed w_ini_TC w_code_TC_seed yd_TC_seed.2 (ci := 0) (r := vr_TC) rfl rfl h0 rfl rfl (Nat.le_of_ble_eq_true rfl) d_Law_seed_4 hRf hRl hrc hrs ⟨by rw [hRc]; omega, by rw [hRs]; omega⟩ (fun o w' hp => by rw [hp.2]; exact hln) (fun v w' H locs hp hW => ?_) (fun X a cell w' H locs hp hW hcell hobj hcls => ?_)
  · exact absurd hp.1 (fun h => by cases h)
  · obtain ⟨hv, rfl⟩ := hp
    cases hv
    refine WT.catch hb htab (by decide) (by decide) (by decide) hown (va_Nw.use rfl (hE.2.2.2.2.2.2 _ (List.mem_of_getElem? (i := 0) rfl))) hcell hobj hcls ?_
    refine lv_astore (lv' := [(4, .ref a), (0, .ref b), (1, .int x), (2, .int y), (3, .int z)]) hx hb d_Law_seed_10 hl (by decide) rfl (fun ls hl => ?_)
    refine lv_iconst (v := 1) hx hb d_Law_seed_12 (by decide) ?_
    exact CtX.iret hx hb hr hnl hW (by omega) (by omega) d_Law_seed_13 ⟨rfl, rfl⟩
abbrev b_Law_run : ByteArray := method_6_code
def y_Law_run : MethodName := ⟨"ThreeClerksLaw", "run", "(LThreeClerks;I[J)I"⟩
theorem yd_Law_run : y_Law_run.cls ≠ "java/lang/invoke/MethodHandle" ∧ y_Law_run.cls ≠ "java/lang/invoke/VarHandle" ∧ (parseMethodDescriptor y_Law_run.desc).map (fun d => d.parameters.length) = some 3 := by decide +kernel
abbrev hd_Law_run : Cond := .codeWith y_Law_run b_Law_run 4 (some .int) [(0, 9, 12, 27)]
theorem d_Law_run_0 : decode b_Law_run 0 = .ok (.aload_n 2, 1) := by decide +kernel
theorem d_Law_run_1 : decode b_Law_run 1 = .ok (.iconst 0, 1) := by decide +kernel
theorem d_Law_run_2 : decode b_Law_run 2 = .ok (.aload_n 0, 1) := by decide +kernel
theorem d_Law_run_3 : decode b_Law_run 3 = .ok (.iload_n 1, 1) := by decide +kernel
theorem d_Law_run_4 : decode b_Law_run 4 = .ok (.invokevirtual 23, 3) := by decide +kernel
theorem d_Law_run_7 : decode b_Law_run 7 = .ok (.i2l, 1) := by decide +kernel
theorem d_Law_run_8 : decode b_Law_run 8 = .ok (.lastore, 1) := by decide +kernel
theorem d_Law_run_9 : decode b_Law_run 9 = .ok (.goto 6, 3) := by decide +kernel
theorem d_Law_run_12 : decode b_Law_run 12 = .ok (.astore_n 3, 1) := by decide +kernel
theorem d_Law_run_13 : decode b_Law_run 13 = .ok (.iconst 1, 1) := by decide +kernel
theorem d_Law_run_14 : decode b_Law_run 14 = .ok (.ireturn, 1) := by decide +kernel
theorem d_Law_run_15 : decode b_Law_run 15 = .ok (.iconst 0, 1) := by decide +kernel
theorem d_Law_run_16 : decode b_Law_run 16 = .ok (.ireturn, 1) := by decide +kernel
set_option maxHeartbeats 1000000 in
theorem wr_run_ret {l : Launch} {G : Gt} {V : Ev} {rm : Room} {wc wt : va_W} {mc ms : Nat} {fs : List Value} (b : Nat) (x : Int32) (q : Nat) (fo : Nat → Int64) (v0 : Int32) (hM : CtX l G V y_TC_run (.code y_TC_run b_TC_run 2 (some .int)) rm [.ref b, .int x] wc mc ms (fun o w' => o = .inl (some (.int v0)) ∧ w' = wt)) (h0 : wc[0]? = some (b, .inr (0, fs))) (hln : wc.length ≤ wt.length) (hrc : rm.cells = mc) (hrs : rm.slots = ms) (RW : Room) (hRf : rm.frames + 1 ≤ RW.frames) (hRl : 21 + rm.locals ≤ RW.locals) (hRc : RW.cells = mc) (hRs : RW.slots = ms) :
    CtX l G V y_Law_run hd_Law_run RW [.ref b, .int x, .ref q] ([(q, .inl (G.2 1, 1, .inr (.inl fo)))] ++ wc) mc ms (fun o w' => o = .inl (some (.int 0)) ∧ w' = ([(q, .inl (G.2 1, 1, .inr (.inl (vp_updL fo 0 v0.toInt64))))] ++ wt)) := by
  refine CtX.of HdOf.codeWith (by decide) (Nat.le_of_ble_eq_true rfl) (fun p e s m args below meth c A ls H locs hx hb hml hr hnl hown hts hnm hK hA hl hW hE htab => ?_)
  have hl : lv_has ls 4 [(0, .ref b), (1, .int x), (2, .ref q)] := hl
  have hW : Wd G A s.heap ([(q, .inl (G.2 1, 1, .inr (.inl fo)))] ++ wc) H locs := hW
  refine lv_aload_n hx hb d_Law_run_0 rfl (lv_at hl 2 rfl) ?_
  refine lv_iconst (v := 0) hx hb d_Law_run_1 (by decide) ?_
  refine lv_aload_n hx hb d_Law_run_2 rfl (lv_at hl 0 rfl) ?_
  refine lv_iload_n hx hb d_Law_run_3 rfl (lv_at hl 1 rfl) ?_
  refine CtX.callVB (As := [.int x]) (rest := [.int 0, .ref q]) (wr := [(q, .inl (G.2 1, 1, .inr (.inl fo)))]) (wc := wc) hx hb hml hown hts hK hE hA hl.1 hW (List.perm_append_comm) hM w_ml_Law_23 w_im_TC_run w_se_TC_run w_ini_TC w_code_TC_run yd_TC_run.2 (ci := 0) (r := vr_TC) rfl rfl h0 rfl rfl (Nat.le_of_ble_eq_true rfl) d_Law_run_4 hRf hRl hrc hrs ⟨by rw [hRc]; omega, by rw [hRs]; omega⟩ (fun o w' hp => by rw [hp.2]; exact hln) (fun v w' H locs hp hW => ?_) (fun X a cell w' H locs hp hW hcell hobj hcls => ?_)
  · obtain ⟨hv, rfl⟩ := hp
    cases hv
    refine W.eq (g2 := F0 m 7 ls [.int v0, .int 0, .ref q]) rfl ?_
    refine lv_i2l (v := v0.toInt64) hx hb d_Law_run_7 rfl ?_
    refine Wd.last hx hb hK hW 0 d_Law_run_8 rfl (by unfold vp_in; decide) (fun H locs hW => ?_)
    have hW : Wd G A s.heap ([(q, .inl (G.2 1, 1, .inr (.inl (vp_updL fo 0 v0.toInt64))))] ++ w') H locs := hW
    refine lv_goto (tgt := 15) hx hb d_Law_run_9 rfl ?_
    refine lv_iconst (v := 0) hx hb d_Law_run_15 (by decide) ?_
    exact CtX.iret hx hb hr hnl hW (by omega) (by omega) d_Law_run_16 ⟨rfl, rfl⟩
  · exact absurd hp.1 (fun h => by cases h)
set_option maxHeartbeats 1000000 in
theorem wr_run_thr {l : Launch} {G : Gt} {V : Ev} {rm : Room} {wc wt : va_W} {mc ms : Nat} {fs : List Value} (b : Nat) (x : Int32) (q : Nat) (fo : Nat → Int64) (hM : CtX l G V y_TC_run (.code y_TC_run b_TC_run 2 (some .int)) rm [.ref b, .int x] wc mc ms (fun o w' => o = .inr "java/lang/IllegalStateException" ∧ w' = wt)) (h0 : wc[0]? = some (b, .inr (0, fs))) (hln : wc.length ≤ wt.length) (hrc : rm.cells = mc) (hrs : rm.slots = ms) (RW : Room) (hRf : rm.frames + 1 ≤ RW.frames) (hRl : 21 + rm.locals ≤ RW.locals) (hRc : RW.cells = mc) (hRs : RW.slots = ms) :
    CtX l G V y_Law_run hd_Law_run RW [.ref b, .int x, .ref q] ([(q, .inl (G.2 1, 1, .inr (.inl fo)))] ++ wc) mc ms (fun o w' => o = .inl (some (.int 1)) ∧ w' = ([(q, .inl (G.2 1, 1, .inr (.inl fo)))] ++ wt)) := by
  refine CtX.of HdOf.codeWith (by decide) (Nat.le_of_ble_eq_true rfl) (fun p e s m args below meth c A ls H locs hx hb hml hr hnl hown hts hnm hK hA hl hW hE htab => ?_)
  have hl : lv_has ls 4 [(0, .ref b), (1, .int x), (2, .ref q)] := hl
  have hW : Wd G A s.heap ([(q, .inl (G.2 1, 1, .inr (.inl fo)))] ++ wc) H locs := hW
  refine lv_aload_n hx hb d_Law_run_0 rfl (lv_at hl 2 rfl) ?_
  refine lv_iconst (v := 0) hx hb d_Law_run_1 (by decide) ?_
  refine lv_aload_n hx hb d_Law_run_2 rfl (lv_at hl 0 rfl) ?_
  refine lv_iload_n hx hb d_Law_run_3 rfl (lv_at hl 1 rfl) ?_
  refine CtX.callVB (As := [.int x]) (rest := [.int 0, .ref q]) (wr := [(q, .inl (G.2 1, 1, .inr (.inl fo)))]) (wc := wc) hx hb hml hown hts hK hE hA hl.1 hW (List.perm_append_comm) hM w_ml_Law_23 w_im_TC_run w_se_TC_run w_ini_TC w_code_TC_run yd_TC_run.2 (ci := 0) (r := vr_TC) rfl rfl h0 rfl rfl (Nat.le_of_ble_eq_true rfl) d_Law_run_4 hRf hRl hrc hrs ⟨by rw [hRc]; omega, by rw [hRs]; omega⟩ (fun o w' hp => by rw [hp.2]; exact hln) (fun v w' H locs hp hW => ?_) (fun X a cell w' H locs hp hW hcell hobj hcls => ?_)
  · exact absurd hp.1 (fun h => by cases h)
  · obtain ⟨hv, rfl⟩ := hp
    cases hv
    refine WT.catch hb htab (by decide) (by decide) (by decide) hown (va_Nw.use rfl (hE.2.2.2.2.2.2 _ (List.mem_of_getElem? (i := 1) rfl))) hcell hobj hcls ?_
    refine lv_astore_n (lv' := [(3, .ref a), (0, .ref b), (1, .int x), (2, .ref q)]) hx hb d_Law_run_12 rfl hl (by decide) rfl (fun ls hl => ?_)
    refine lv_iconst (v := 1) hx hb d_Law_run_13 (by decide) ?_
    exact CtX.iret hx hb hr hnl hW (by omega) (by omega) d_Law_run_14 ⟨rfl, rfl⟩
abbrev b_Law_output : ByteArray := method_7_code
def y_Law_output : MethodName := ⟨"ThreeClerksLaw", "output", "(LThreeClerks;I[J)I"⟩
theorem yd_Law_output : y_Law_output.cls ≠ "java/lang/invoke/MethodHandle" ∧ y_Law_output.cls ≠ "java/lang/invoke/VarHandle" ∧ (parseMethodDescriptor y_Law_output.desc).map (fun d => d.parameters.length) = some 3 := by decide +kernel
abbrev hd_Law_output : Cond := .codeWith y_Law_output b_Law_output 4 (some .int) [(0, 9, 12, 32)]
theorem d_Law_output_0 : decode b_Law_output 0 = .ok (.aload_n 2, 1) := by decide +kernel
theorem d_Law_output_1 : decode b_Law_output 1 = .ok (.iconst 0, 1) := by decide +kernel
theorem d_Law_output_2 : decode b_Law_output 2 = .ok (.aload_n 0, 1) := by decide +kernel
theorem d_Law_output_3 : decode b_Law_output 3 = .ok (.iload_n 1, 1) := by decide +kernel
theorem d_Law_output_4 : decode b_Law_output 4 = .ok (.invokevirtual 29, 3) := by decide +kernel
theorem d_Law_output_7 : decode b_Law_output 7 = .ok (.i2l, 1) := by decide +kernel
theorem d_Law_output_8 : decode b_Law_output 8 = .ok (.lastore, 1) := by decide +kernel
theorem d_Law_output_9 : decode b_Law_output 9 = .ok (.goto 6, 3) := by decide +kernel
theorem d_Law_output_12 : decode b_Law_output 12 = .ok (.astore_n 3, 1) := by decide +kernel
theorem d_Law_output_13 : decode b_Law_output 13 = .ok (.iconst 1, 1) := by decide +kernel
theorem d_Law_output_14 : decode b_Law_output 14 = .ok (.ireturn, 1) := by decide +kernel
theorem d_Law_output_15 : decode b_Law_output 15 = .ok (.iconst 0, 1) := by decide +kernel
theorem d_Law_output_16 : decode b_Law_output 16 = .ok (.ireturn, 1) := by decide +kernel
set_option maxHeartbeats 1000000 in
theorem wr_output_ret {l : Launch} {G : Gt} {V : Ev} {rm : Room} {wc wt : va_W} {mc ms : Nat} {fs : List Value} (b : Nat) (x : Int32) (q : Nat) (fo : Nat → Int64) (v0 : Int32) (hM : CtX l G V y_TC_output (.code y_TC_output b_TC_output 2 (some .int)) rm [.ref b, .int x] wc mc ms (fun o w' => o = .inl (some (.int v0)) ∧ w' = wt)) (h0 : wc[0]? = some (b, .inr (0, fs))) (hln : wc.length ≤ wt.length) (hrc : rm.cells = mc) (hrs : rm.slots = ms) (RW : Room) (hRf : rm.frames + 1 ≤ RW.frames) (hRl : 21 + rm.locals ≤ RW.locals) (hRc : RW.cells = mc) (hRs : RW.slots = ms) :
    CtX l G V y_Law_output hd_Law_output RW [.ref b, .int x, .ref q] ([(q, .inl (G.2 1, 1, .inr (.inl fo)))] ++ wc) mc ms (fun o w' => o = .inl (some (.int 0)) ∧ w' = ([(q, .inl (G.2 1, 1, .inr (.inl (vp_updL fo 0 v0.toInt64))))] ++ wt)) := by
  refine CtX.of HdOf.codeWith (by decide) (Nat.le_of_ble_eq_true rfl) (fun p e s m args below meth c A ls H locs hx hb hml hr hnl hown hts hnm hK hA hl hW hE htab => ?_)
  have hl : lv_has ls 4 [(0, .ref b), (1, .int x), (2, .ref q)] := hl
  have hW : Wd G A s.heap ([(q, .inl (G.2 1, 1, .inr (.inl fo)))] ++ wc) H locs := hW
  refine lv_aload_n hx hb d_Law_output_0 rfl (lv_at hl 2 rfl) ?_
  refine lv_iconst (v := 0) hx hb d_Law_output_1 (by decide) ?_
  refine lv_aload_n hx hb d_Law_output_2 rfl (lv_at hl 0 rfl) ?_
  refine lv_iload_n hx hb d_Law_output_3 rfl (lv_at hl 1 rfl) ?_
  refine CtX.callVB (As := [.int x]) (rest := [.int 0, .ref q]) (wr := [(q, .inl (G.2 1, 1, .inr (.inl fo)))]) (wc := wc) hx hb hml hown hts hK hE hA hl.1 hW (List.perm_append_comm) hM w_ml_Law_29 w_im_TC_output w_se_TC_output w_ini_TC w_code_TC_output yd_TC_output.2 (ci := 0) (r := vr_TC) rfl rfl h0 rfl rfl (Nat.le_of_ble_eq_true rfl) d_Law_output_4 hRf hRl hrc hrs ⟨by rw [hRc]; omega, by rw [hRs]; omega⟩ (fun o w' hp => by rw [hp.2]; exact hln) (fun v w' H locs hp hW => ?_) (fun X a cell w' H locs hp hW hcell hobj hcls => ?_)
  · obtain ⟨hv, rfl⟩ := hp
    cases hv
    refine W.eq (g2 := F0 m 7 ls [.int v0, .int 0, .ref q]) rfl ?_
    refine lv_i2l (v := v0.toInt64) hx hb d_Law_output_7 rfl ?_
    refine Wd.last hx hb hK hW 0 d_Law_output_8 rfl (by unfold vp_in; decide) (fun H locs hW => ?_)
    have hW : Wd G A s.heap ([(q, .inl (G.2 1, 1, .inr (.inl (vp_updL fo 0 v0.toInt64))))] ++ w') H locs := hW
    refine lv_goto (tgt := 15) hx hb d_Law_output_9 rfl ?_
    refine lv_iconst (v := 0) hx hb d_Law_output_15 (by decide) ?_
    exact CtX.iret hx hb hr hnl hW (by omega) (by omega) d_Law_output_16 ⟨rfl, rfl⟩
  · exact absurd hp.1 (fun h => by cases h)
set_option maxHeartbeats 1000000 in
theorem wr_output_thr {l : Launch} {G : Gt} {V : Ev} {rm : Room} {wc wt : va_W} {mc ms : Nat} {fs : List Value} (b : Nat) (x : Int32) (q : Nat) (fo : Nat → Int64) (hM : CtX l G V y_TC_output (.code y_TC_output b_TC_output 2 (some .int)) rm [.ref b, .int x] wc mc ms (fun o w' => o = .inr "java/lang/IndexOutOfBoundsException" ∧ w' = wt)) (h0 : wc[0]? = some (b, .inr (0, fs))) (hln : wc.length ≤ wt.length) (hrc : rm.cells = mc) (hrs : rm.slots = ms) (RW : Room) (hRf : rm.frames + 1 ≤ RW.frames) (hRl : 21 + rm.locals ≤ RW.locals) (hRc : RW.cells = mc) (hRs : RW.slots = ms) :
    CtX l G V y_Law_output hd_Law_output RW [.ref b, .int x, .ref q] ([(q, .inl (G.2 1, 1, .inr (.inl fo)))] ++ wc) mc ms (fun o w' => o = .inl (some (.int 1)) ∧ w' = ([(q, .inl (G.2 1, 1, .inr (.inl fo)))] ++ wt)) := by
  refine CtX.of HdOf.codeWith (by decide) (Nat.le_of_ble_eq_true rfl) (fun p e s m args below meth c A ls H locs hx hb hml hr hnl hown hts hnm hK hA hl hW hE htab => ?_)
  have hl : lv_has ls 4 [(0, .ref b), (1, .int x), (2, .ref q)] := hl
  have hW : Wd G A s.heap ([(q, .inl (G.2 1, 1, .inr (.inl fo)))] ++ wc) H locs := hW
  refine lv_aload_n hx hb d_Law_output_0 rfl (lv_at hl 2 rfl) ?_
  refine lv_iconst (v := 0) hx hb d_Law_output_1 (by decide) ?_
  refine lv_aload_n hx hb d_Law_output_2 rfl (lv_at hl 0 rfl) ?_
  refine lv_iload_n hx hb d_Law_output_3 rfl (lv_at hl 1 rfl) ?_
  refine CtX.callVB (As := [.int x]) (rest := [.int 0, .ref q]) (wr := [(q, .inl (G.2 1, 1, .inr (.inl fo)))]) (wc := wc) hx hb hml hown hts hK hE hA hl.1 hW (List.perm_append_comm) hM w_ml_Law_29 w_im_TC_output w_se_TC_output w_ini_TC w_code_TC_output yd_TC_output.2 (ci := 0) (r := vr_TC) rfl rfl h0 rfl rfl (Nat.le_of_ble_eq_true rfl) d_Law_output_4 hRf hRl hrc hrs ⟨by rw [hRc]; omega, by rw [hRs]; omega⟩ (fun o w' hp => by rw [hp.2]; exact hln) (fun v w' H locs hp hW => ?_) (fun X a cell w' H locs hp hW hcell hobj hcls => ?_)
  · exact absurd hp.1 (fun h => by cases h)
  · obtain ⟨hv, rfl⟩ := hp
    cases hv
    refine WT.catch hb htab (by decide) (by decide) (by decide) hown (va_Nw.use rfl (hE.2.2.2.2.2.2 _ (List.mem_of_getElem? (i := 2) rfl))) hcell hobj hcls ?_
    refine lv_astore_n (lv' := [(3, .ref a), (0, .ref b), (1, .int x), (2, .ref q)]) hx hb d_Law_output_12 rfl hl (by decide) rfl (fun ls hl => ?_)
    refine lv_iconst (v := 1) hx hb d_Law_output_13 (by decide) ?_
    exact CtX.iret hx hb hr hnl hW (by omega) (by omega) d_Law_output_14 ⟨rfl, rfl⟩
