theorem Met.ofWF {l : Launch} {y : MethodName} {ws ws' : List Cond} {rm : Room} {Pc : Array Value → State → Prop} {Qc : Array Value → State → Outcome → State → Prop} {mc ms : Nat} {free : Addr → Prop} {cc : ByteArray} {maxL : Nat} {ret : Option FieldType}
    (hy : plainFor y = true) (hw : ws = Cond.code y cc maxL ret :: ws')
    (body : ∀ p e s m args below meth c s₁, BodyLoose p l y (headSpec ws rm) cc maxL ret e s m args below meth c s₁ → c.maxLocals = maxL → Pc args s →
      W p l e (headSpec ws rm).room s m args below meth c s.heap [] 0 0 (MQ below Qc args s mc ms free) (entryFrame m args maxL)) : Met l y ws rm Pc Qc mc ms free := by
  refine MetFree.of_bodySF (code := cc) (maxLocals := maxL) (ret := ret) hy ?_ ?_
  · intro args s m h hn
    obtain ⟨meth, c, h1, h2, h3, h4, h5, h6, -, -⟩ := Cond.code_spec hn (atoms_spec (ws := ws) h _ (by rw [hw]; exact List.mem_cons_self))
    exact ⟨meth, c, h1, h2, h3, h4, h5, h6⟩
  · intro p e s m args below meth c s₁ B hml hP _
    have hh0 : s₁.heap = s.heap := by rw [B.state]; rfl
    obtain ⟨t, a1, o, b1, b2, b3⟩ := body p e s m args below meth c s₁ B hml hP s₁ hh0 (Stand.of_body B)
    exact ⟨t, o, a1, b1, b2, ⟨b3.1, b3.2⟩⟩
theorem Ct.ofF {l : Launch} {G : Gt} {y : MethodName} {bc : ByteArray} {mL : Nat} {ret : Option FieldType} {rm : Room} {av : List Value} {w : va_W} {mc ms : Nat} {post : Option Value → va_W → Prop} (hy : plainFor y = true) (hlen : (lg_sl av).length ≤ mL)
    (body : ∀ (p : Program) (e : Env) (s : State) (m : MethodId) (args : Array Value) (below : List Frame) (meth : Method) (c : Code) (A : Nat → Prop) (ls : Array Slot) (H : Heap) (locs : List Loc),
      p.tables.exec = Jvm.exec → c.code = bc → c.maxLocals = mL → meth.sig.returnType = ret → meth.locks = false → s.vm.findClass y.cls = some m.cls → (∀ w ∈ wsA, w.before args s = true) → meth.name = y.name → KX G s → (∀ q, s.heap.size ≤ q → A q) →
      lv_has ls mL (lv_args 0 av) → Wd G A s.heap w H locs → W p l e rm s m args below meth c H locs 0 0 (MQ below (Qcc G post A) args s mc ms A) (F0 m 0 ls [])) : Ct l G y bc mL ret rm av w mc ms post := by
  intro sz
  refine Met.ofWF (cc := bc) (maxL := mL) (ret := ret) hy rfl ?_
  intro p e s m args below meth c s₁ B hml hv
  obtain ⟨rfl, hsz, hP, hK, hD0⟩ := hv
  have hts := atoms_spec (ws := Cond.code y bc mL ret :: wsA) B.pre
  subst hsz
  have hD := hD0.self (sz := s.heap.size)
  rw [lg_entry_eq]
  exact body p e s m _ below meth c (va_A w s.heap.size) _ s.heap [] B.exec B.bytes hml B.returns B.notSynchronized (findClass_of_methodNamed B.named) (fun w hw => hts w (List.mem_cons_of_mem _ hw)) (name_of_methodNamed B.named B.method).1 hK (fun q h => Or.inr h) (lv_entry av hlen) ⟨hP, hD, va_S.rf⟩

theorem d_JMath_floorMod_0 : decode b_JMath_floorMod 0 = .ok (.iload_n 0, 1) := by decide +kernel
theorem d_JMath_floorMod_1 : decode b_JMath_floorMod 1 = .ok (.iload_n 1, 1) := by decide +kernel
theorem d_JMath_floorMod_2 : decode b_JMath_floorMod 2 = .ok (.irem, 1) := by decide +kernel
theorem d_JMath_floorMod_3 : decode b_JMath_floorMod 3 = .ok (.istore_n 2, 1) := by decide +kernel
theorem d_JMath_floorMod_4 : decode b_JMath_floorMod 4 = .ok (.iload_n 0, 1) := by decide +kernel
theorem d_JMath_floorMod_5 : decode b_JMath_floorMod 5 = .ok (.iload_n 1, 1) := by decide +kernel
theorem d_JMath_floorMod_6 : decode b_JMath_floorMod 6 = .ok (.ixor, 1) := by decide +kernel
theorem d_JMath_floorMod_7 : decode b_JMath_floorMod 7 = .ok (.ifCond .ge 11, 3) := by decide +kernel
theorem d_JMath_floorMod_10 : decode b_JMath_floorMod 10 = .ok (.iload_n 2, 1) := by decide +kernel
theorem d_JMath_floorMod_11 : decode b_JMath_floorMod 11 = .ok (.ifCond .eq 7, 3) := by decide +kernel
theorem d_JMath_floorMod_14 : decode b_JMath_floorMod 14 = .ok (.iload_n 2, 1) := by decide +kernel
theorem d_JMath_floorMod_15 : decode b_JMath_floorMod 15 = .ok (.iload_n 1, 1) := by decide +kernel
theorem d_JMath_floorMod_16 : decode b_JMath_floorMod 16 = .ok (.iadd, 1) := by decide +kernel
theorem d_JMath_floorMod_17 : decode b_JMath_floorMod 17 = .ok (.ireturn, 1) := by decide +kernel
theorem d_JMath_floorMod_18 : decode b_JMath_floorMod 18 = .ok (.iload_n 2, 1) := by decide +kernel
theorem d_JMath_floorMod_19 : decode b_JMath_floorMod 19 = .ok (.ireturn, 1) := by decide +kernel
theorem d_JMath_max_0 : decode b_JMath_max 0 = .ok (.iload_n 0, 1) := by decide +kernel
theorem d_JMath_max_1 : decode b_JMath_max 1 = .ok (.iload_n 1, 1) := by decide +kernel
theorem d_JMath_max_2 : decode b_JMath_max 2 = .ok (.if_icmp .lt 7, 3) := by decide +kernel
theorem d_JMath_max_5 : decode b_JMath_max 5 = .ok (.iload_n 0, 1) := by decide +kernel
theorem d_JMath_max_6 : decode b_JMath_max 6 = .ok (.goto 4, 3) := by decide +kernel
theorem d_JMath_max_9 : decode b_JMath_max 9 = .ok (.iload_n 1, 1) := by decide +kernel
theorem d_JMath_max_10 : decode b_JMath_max 10 = .ok (.ireturn, 1) := by decide +kernel
theorem d_JMath_min_0 : decode b_JMath_min 0 = .ok (.iload_n 0, 1) := by decide +kernel
theorem d_JMath_min_1 : decode b_JMath_min 1 = .ok (.iload_n 1, 1) := by decide +kernel
theorem d_JMath_min_2 : decode b_JMath_min 2 = .ok (.if_icmp .gt 7, 3) := by decide +kernel
theorem d_JMath_min_5 : decode b_JMath_min 5 = .ok (.iload_n 0, 1) := by decide +kernel
theorem d_JMath_min_6 : decode b_JMath_min 6 = .ok (.goto 4, 3) := by decide +kernel
theorem d_JMath_min_9 : decode b_JMath_min 9 = .ok (.iload_n 1, 1) := by decide +kernel
theorem d_JMath_min_10 : decode b_JMath_min 10 = .ok (.ireturn, 1) := by decide +kernel
abbrev rm_Post_deliver : Room := { frames := 2, cells := 0, slots := 0, locals := 46 }
set_option maxHeartbeats 4000000 in
set_option maxRecDepth 100000 in
theorem c_Post_deliver (l : Launch) (G : Gt) (h0 : Nat) (h0r : Nat) (h0n : Nat) (h0w : Nat) (pc : Int32) (pr : Nat → Int32) (pn : Nat → Int32) (pw : Nat → Int64) (h2 : Nat) (cf : Nat → Option Nat) (h3 : Nat) (h3s : Nat) (h3b : Nat) (h3p : Nat) (h3o : Nat) (h3n : Nat) (h3c : Nat) (h3l : Nat) (h3r : Nat) (h3x : Nat) (h3i : Nat) (h3q : Nat) (w : Int32) (tk : Int32) (sg : Int32) (sn : Int32) (wa : Int32) (oc : Int32) (h3bn : Nat) (h3bw : Nat) (bn : Nat → Int32) (bw : Nat → Int64) (x : Int32) (hpx : ¬ x < 0) (hpy : x < pc) (hvx : vp_in x 16) (hvc : vp_in (pc - 1) 16) (hvr : vp_in (pr x.toNatClampNeg) 3) (hcf : cf (pr x.toNatClampNeg).toNatClampNeg = some h3) : Ct l G y_Post_deliver b_Post_deliver 3 none rm_Post_deliver [.ref h0, .int x, .ref h2] [(h0, .inr (8, [.ref h0r, .ref h0n, .ref h0w, .int pc])), (h0r, .inl (G.2 0, 16, .inl pr)), (h0n, .inl (G.2 0, 16, .inl pn)), (h0w, .inl (G.2 1, 16, .inr (.inl pw))), (h2, .inl (G.2 4, 3, .inr (.inr (.inr (.inr cf))))), (h3, .inr (3, [.int w, .ref h3s, .ref h3b, .ref h3p, .ref h3o, .ref h3n, .ref h3c, .ref h3l, .ref h3r, .ref h3x, .ref h3i, .int tk, .int sg, .int sn, .int wa, .ref h3q, .int oc])), (h3b, .inr (2, [.ref h3bn, .ref h3bw])), (h3bn, .inl (G.2 0, 8, .inl bn)), (h3bw, .inl (G.2 1, 8, .inr (.inl bw)))] 0 0 (fun v w' => v = none ∧ w' = [(h0, .inr (8, [.ref h0r, .ref h0n, .ref h0w, .int (pc - 1)])), (h0r, .inl (G.2 0, 16, .inl (upd pr x.toNatClampNeg (pr ((pc - 1).toNatClampNeg))))), (h0n, .inl (G.2 0, 16, .inl (upd pn x.toNatClampNeg (pn ((pc - 1).toNatClampNeg))))), (h0w, .inl (G.2 1, 16, .inr (.inl (vp_updL pw x.toNatClampNeg (pw ((pc - 1).toNatClampNeg)))))), (h2, .inl (G.2 4, 3, .inr (.inr (.inr (.inr cf))))), (h3, .inr (3, [.int w, .ref h3s, .ref h3b, .ref h3p, .ref h3o, .ref h3n, .ref h3c, .ref h3l, .ref h3r, .ref h3x, .ref h3i, .int tk, .int sg, .int sn, .int wa, .ref h3q, .int oc])), (h3b, .inr (2, [.ref h3bn, .ref h3bw])), (h3bn, .inl (G.2 0, 8, .inl (upd bn (((pn x.toNatClampNeg) &&& 7).toNatClampNeg) (pn x.toNatClampNeg)))), (h3bw, .inl (G.2 1, 8, .inr (.inl (vp_updL bw (((pn x.toNatClampNeg) &&& 7).toNatClampNeg) (pw x.toNatClampNeg)))))]) := by
  refine Ct.of (by decide) (Nat.le_of_ble_eq_true rfl) (fun p e s m args below meth c A ls H locs hx hb hml hr hnl hown hts hnm hK hA hl hW => ?_)
  have hl : lv_has ls 3 [(0, .ref h0), (1, .int x), (2, .ref h2)] := hl
  refine lv_iload_n hx hb d_Post_deliver_0 rfl (lv_at hl 1 rfl) ?_
  refine lv_if_lt (tgt := 12) hx hb d_Post_deliver_1 rfl (fun hz => absurd hz hpx) (fun _ => ?_)
  refine lv_iload_n hx hb d_Post_deliver_4 rfl (lv_at hl 1 rfl) ?_
  refine lv_aload_n hx hb d_Post_deliver_5 rfl (lv_at hl 0 rfl) ?_
  refine Wd.get hx hb hts hown hK hW 0 3 in_Post w_fl_Post_20 (by decide) d_Post_deliver_6 rfl rfl rfl ?_
  refine lv_icmp_lt (tgt := 13) hx hb d_Post_deliver_9 rfl (fun _ => ?_) (fun hz => absurd hpy hz)
  refine lv_aload_n hx hb d_Post_deliver_13 rfl (lv_at hl 2 rfl) ?_
  refine lv_aload_n hx hb d_Post_deliver_14 rfl (lv_at hl 0 rfl) ?_
  refine Wd.get hx hb hts hown hK hW 0 0 in_Post w_fl_Post_9 (by decide) d_Post_deliver_15 rfl rfl rfl ?_
  refine lv_iload_n hx hb d_Post_deliver_18 rfl (lv_at hl 1 rfl) ?_
  refine Wd.iald hx hb hK hW 1 d_Post_deliver_19 rfl (by first | exact hvx | exact hvc) ?_
  refine Wd.aald hx hb hK hW 4 4 d_Post_deliver_20 rfl rfl hvr hcf ?_
  refine lv_aload_n hx hb d_Post_deliver_21 rfl (lv_at hl 0 rfl) ?_
  refine Wd.get hx hb hts hown hK hW 0 1 in_Post w_fl_Post_13 (by decide) d_Post_deliver_22 rfl rfl rfl ?_
  refine lv_iload_n hx hb d_Post_deliver_25 rfl (lv_at hl 1 rfl) ?_
  refine Wd.iald hx hb hK hW 2 d_Post_deliver_26 rfl (by first | exact hvx | exact hvc) ?_
  refine lv_aload_n hx hb d_Post_deliver_27 rfl (lv_at hl 0 rfl) ?_
  refine Wd.get hx hb hts hown hK hW 0 2 in_Post w_fl_Post_16 (by decide) d_Post_deliver_28 rfl rfl rfl ?_
  refine lv_iload_n hx hb d_Post_deliver_31 rfl (lv_at hl 1 rfl) ?_
  refine Wd.lald hx hb hK hW 3 d_Post_deliver_32 rfl (by first | exact hvx | exact hvc) ?_
  refine Ct.callV (As := [.int (pn x.toNatClampNeg), .long (pw x.toNatClampNeg)]) (rest := []) hx hb hml hown hts hK hA hl.1 hW (c_Clerk_receive l G h3 h3s h3b h3p h3o h3n h3c h3l h3r h3x h3i h3q w tk sg sn wa oc h3bn h3bw bn bw (pn x.toNatClampNeg) (pw x.toNatClampNeg) ) (cwV 2 hts (good_V w_ml_Post_24 w_im_Clerk_receive w_se_Clerk_receive w_ini_Clerk w_code_Clerk_receive) rfl rfl rfl yd_Clerk_receive ⟨by decide, by decide⟩) [5, 6, 7, 8] (by decide) rfl (ci := 3) (r := vr_Clerk) rfl rfl rfl rfl rfl (Nat.le_of_ble_eq_true rfl) d_Post_deliver_33 ⟨by decide, by decide⟩ (fun v w' hp => by obtain ⟨-, rfl⟩ := hp; exact Nat.le_of_ble_eq_true rfl) (fun v w' H locs hp hW => ?_)
  obtain ⟨rfl, rfl⟩ := hp
  have hW : Wd G A s.heap [(h0, .inr (8, [.ref h0r, .ref h0n, .ref h0w, .int pc])), (h0r, .inl (G.2 0, 16, .inl pr)), (h0n, .inl (G.2 0, 16, .inl pn)), (h0w, .inl (G.2 1, 16, .inr (.inl pw))), (h2, .inl (G.2 4, 3, .inr (.inr (.inr (.inr cf))))), (h3, .inr (3, [.int w, .ref h3s, .ref h3b, .ref h3p, .ref h3o, .ref h3n, .ref h3c, .ref h3l, .ref h3r, .ref h3x, .ref h3i, .int tk, .int sg, .int sn, .int wa, .ref h3q, .int oc])), (h3b, .inr (2, [.ref h3bn, .ref h3bw])), (h3bn, .inl (G.2 0, 8, .inl (upd bn (((pn x.toNatClampNeg) &&& 7).toNatClampNeg) (pn x.toNatClampNeg)))), (h3bw, .inl (G.2 1, 8, .inr (.inl (vp_updL bw (((pn x.toNatClampNeg) &&& 7).toNatClampNeg) (pw x.toNatClampNeg)))))] H locs := hW
  refine W.eq (g2 := F0 m 36 ls []) rfl ?_
  refine lv_aload_n hx hb d_Post_deliver_36 rfl (lv_at hl 0 rfl) ?_
  refine lv_dup hx hb d_Post_deliver_37 rfl ?_
  refine Wd.get hx hb hts hown hK hW 0 3 in_Post w_fl_Post_20 (by decide) d_Post_deliver_38 rfl rfl rfl ?_
  refine lv_iconst (v := 1) hx hb d_Post_deliver_41 (by decide) ?_
  refine lv_isub hx hb d_Post_deliver_42 ?_
  refine Wd.put hx hb hts hown hK hW 0 3 in_Post t_Post_ok n_Post w_fl_Post_20 (by decide) d_Post_deliver_43 rfl rfl rfl rfl rfl (Nat.le_of_ble_eq_true rfl) (fun H locs hW => ?_)
  have hW : Wd G A s.heap [(h0, .inr (8, [.ref h0r, .ref h0n, .ref h0w, .int (pc - 1)])), (h0r, .inl (G.2 0, 16, .inl pr)), (h0n, .inl (G.2 0, 16, .inl pn)), (h0w, .inl (G.2 1, 16, .inr (.inl pw))), (h2, .inl (G.2 4, 3, .inr (.inr (.inr (.inr cf))))), (h3, .inr (3, [.int w, .ref h3s, .ref h3b, .ref h3p, .ref h3o, .ref h3n, .ref h3c, .ref h3l, .ref h3r, .ref h3x, .ref h3i, .int tk, .int sg, .int sn, .int wa, .ref h3q, .int oc])), (h3b, .inr (2, [.ref h3bn, .ref h3bw])), (h3bn, .inl (G.2 0, 8, .inl (upd bn (((pn x.toNatClampNeg) &&& 7).toNatClampNeg) (pn x.toNatClampNeg)))), (h3bw, .inl (G.2 1, 8, .inr (.inl (vp_updL bw (((pn x.toNatClampNeg) &&& 7).toNatClampNeg) (pw x.toNatClampNeg)))))] H locs := hW
  refine lv_aload_n hx hb d_Post_deliver_46 rfl (lv_at hl 0 rfl) ?_
  refine Wd.get hx hb hts hown hK hW 0 0 in_Post w_fl_Post_9 (by decide) d_Post_deliver_47 rfl rfl rfl ?_
  refine lv_iload_n hx hb d_Post_deliver_50 rfl (lv_at hl 1 rfl) ?_
  refine lv_aload_n hx hb d_Post_deliver_51 rfl (lv_at hl 0 rfl) ?_
  refine Wd.get hx hb hts hown hK hW 0 0 in_Post w_fl_Post_9 (by decide) d_Post_deliver_52 rfl rfl rfl ?_
  refine lv_aload_n hx hb d_Post_deliver_55 rfl (lv_at hl 0 rfl) ?_
  refine Wd.get hx hb hts hown hK hW 0 3 in_Post w_fl_Post_20 (by decide) d_Post_deliver_56 rfl rfl rfl ?_
  refine Wd.iald hx hb hK hW 1 d_Post_deliver_59 rfl (by first | exact hvx | exact hvc) ?_
  refine Wd.iast hx hb hK hW 1 d_Post_deliver_60 rfl (by first | exact hvx | exact hvc) (fun H locs hW => ?_)
  have hW : Wd G A s.heap [(h0, .inr (8, [.ref h0r, .ref h0n, .ref h0w, .int (pc - 1)])), (h0r, .inl (G.2 0, 16, .inl (upd pr x.toNatClampNeg (pr ((pc - 1).toNatClampNeg))))), (h0n, .inl (G.2 0, 16, .inl pn)), (h0w, .inl (G.2 1, 16, .inr (.inl pw))), (h2, .inl (G.2 4, 3, .inr (.inr (.inr (.inr cf))))), (h3, .inr (3, [.int w, .ref h3s, .ref h3b, .ref h3p, .ref h3o, .ref h3n, .ref h3c, .ref h3l, .ref h3r, .ref h3x, .ref h3i, .int tk, .int sg, .int sn, .int wa, .ref h3q, .int oc])), (h3b, .inr (2, [.ref h3bn, .ref h3bw])), (h3bn, .inl (G.2 0, 8, .inl (upd bn (((pn x.toNatClampNeg) &&& 7).toNatClampNeg) (pn x.toNatClampNeg)))), (h3bw, .inl (G.2 1, 8, .inr (.inl (vp_updL bw (((pn x.toNatClampNeg) &&& 7).toNatClampNeg) (pw x.toNatClampNeg)))))] H locs := hW
  refine lv_aload_n hx hb d_Post_deliver_61 rfl (lv_at hl 0 rfl) ?_
  refine Wd.get hx hb hts hown hK hW 0 1 in_Post w_fl_Post_13 (by decide) d_Post_deliver_62 rfl rfl rfl ?_
  refine lv_iload_n hx hb d_Post_deliver_65 rfl (lv_at hl 1 rfl) ?_
  refine lv_aload_n hx hb d_Post_deliver_66 rfl (lv_at hl 0 rfl) ?_
  refine Wd.get hx hb hts hown hK hW 0 1 in_Post w_fl_Post_13 (by decide) d_Post_deliver_67 rfl rfl rfl ?_
  refine lv_aload_n hx hb d_Post_deliver_70 rfl (lv_at hl 0 rfl) ?_
  refine Wd.get hx hb hts hown hK hW 0 3 in_Post w_fl_Post_20 (by decide) d_Post_deliver_71 rfl rfl rfl ?_
  refine Wd.iald hx hb hK hW 2 d_Post_deliver_74 rfl (by first | exact hvx | exact hvc) ?_
  refine Wd.iast hx hb hK hW 2 d_Post_deliver_75 rfl (by first | exact hvx | exact hvc) (fun H locs hW => ?_)
  have hW : Wd G A s.heap [(h0, .inr (8, [.ref h0r, .ref h0n, .ref h0w, .int (pc - 1)])), (h0r, .inl (G.2 0, 16, .inl (upd pr x.toNatClampNeg (pr ((pc - 1).toNatClampNeg))))), (h0n, .inl (G.2 0, 16, .inl (upd pn x.toNatClampNeg (pn ((pc - 1).toNatClampNeg))))), (h0w, .inl (G.2 1, 16, .inr (.inl pw))), (h2, .inl (G.2 4, 3, .inr (.inr (.inr (.inr cf))))), (h3, .inr (3, [.int w, .ref h3s, .ref h3b, .ref h3p, .ref h3o, .ref h3n, .ref h3c, .ref h3l, .ref h3r, .ref h3x, .ref h3i, .int tk, .int sg, .int sn, .int wa, .ref h3q, .int oc])), (h3b, .inr (2, [.ref h3bn, .ref h3bw])), (h3bn, .inl (G.2 0, 8, .inl (upd bn (((pn x.toNatClampNeg) &&& 7).toNatClampNeg) (pn x.toNatClampNeg)))), (h3bw, .inl (G.2 1, 8, .inr (.inl (vp_updL bw (((pn x.toNatClampNeg) &&& 7).toNatClampNeg) (pw x.toNatClampNeg)))))] H locs := hW
  refine lv_aload_n hx hb d_Post_deliver_76 rfl (lv_at hl 0 rfl) ?_
  refine Wd.get hx hb hts hown hK hW 0 2 in_Post w_fl_Post_16 (by decide) d_Post_deliver_77 rfl rfl rfl ?_
  refine lv_iload_n hx hb d_Post_deliver_80 rfl (lv_at hl 1 rfl) ?_
  refine lv_aload_n hx hb d_Post_deliver_81 rfl (lv_at hl 0 rfl) ?_
  refine Wd.get hx hb hts hown hK hW 0 2 in_Post w_fl_Post_16 (by decide) d_Post_deliver_82 rfl rfl rfl ?_
  refine lv_aload_n hx hb d_Post_deliver_85 rfl (lv_at hl 0 rfl) ?_
  refine Wd.get hx hb hts hown hK hW 0 3 in_Post w_fl_Post_20 (by decide) d_Post_deliver_86 rfl rfl rfl ?_
  refine Wd.lald hx hb hK hW 3 d_Post_deliver_89 rfl (by first | exact hvx | exact hvc) ?_
  refine Wd.last hx hb hK hW 3 d_Post_deliver_90 rfl (by first | exact hvx | exact hvc) (fun H locs hW => ?_)
  have hW : Wd G A s.heap [(h0, .inr (8, [.ref h0r, .ref h0n, .ref h0w, .int (pc - 1)])), (h0r, .inl (G.2 0, 16, .inl (upd pr x.toNatClampNeg (pr ((pc - 1).toNatClampNeg))))), (h0n, .inl (G.2 0, 16, .inl (upd pn x.toNatClampNeg (pn ((pc - 1).toNatClampNeg))))), (h0w, .inl (G.2 1, 16, .inr (.inl (vp_updL pw x.toNatClampNeg (pw ((pc - 1).toNatClampNeg)))))), (h2, .inl (G.2 4, 3, .inr (.inr (.inr (.inr cf))))), (h3, .inr (3, [.int w, .ref h3s, .ref h3b, .ref h3p, .ref h3o, .ref h3n, .ref h3c, .ref h3l, .ref h3r, .ref h3x, .ref h3i, .int tk, .int sg, .int sn, .int wa, .ref h3q, .int oc])), (h3b, .inr (2, [.ref h3bn, .ref h3bw])), (h3bn, .inl (G.2 0, 8, .inl (upd bn (((pn x.toNatClampNeg) &&& 7).toNatClampNeg) (pn x.toNatClampNeg)))), (h3bw, .inl (G.2 1, 8, .inr (.inl (vp_updL bw (((pn x.toNatClampNeg) &&& 7).toNatClampNeg) (pw x.toNatClampNeg)))))] H locs := hW
  exact Ct.vret hx hb hr hnl hW (by decide) (by decide) d_Post_deliver_91 ⟨rfl, rfl⟩

def o_JMath_floorMod_r (x : Int32) (y : Int32) : Int32 := if 0 ≤ (x ^^^ y) then x - x / y * y else if (x - x / y * y) = 0 then x - x / y * y else (x - x / y * y) + y
abbrev rm_JMath_floorMod : Room := { frames := 0, cells := 0, slots := 0, locals := 0 }
set_option maxHeartbeats 4000000 in
set_option maxRecDepth 100000 in
theorem c_JMath_floorMod (l : Launch) (G : Gt) (x : Int32) (y : Int32) (hy : ¬ y = 0) : Ct l G y_JMath_floorMod b_JMath_floorMod 3 (some .int) rm_JMath_floorMod [.int x, .int y] [] 0 0 (fun v w' => v = some (.int (o_JMath_floorMod_r x y)) ∧ w' = []) := by
  refine Ct.ofF (by decide +kernel) (Nat.le_of_ble_eq_true rfl) (fun p e s m args below meth c A ls H locs hx hb hml hr hnl hown hts hnm hK hA hl hW => ?_)
  have hl : lv_has ls 3 [(0, .int x), (1, .int y)] := hl
  refine lv_iload_n hx hb d_JMath_floorMod_0 rfl (lv_at hl 0 rfl) ?_
  refine lv_iload_n hx hb d_JMath_floorMod_1 rfl (lv_at hl 1 rfl) ?_
  refine lv_irem hx hb d_JMath_floorMod_2 hy ?_
  refine lv_istore_n (lv' := [(2, .int (x - x / y * y)), (0, .int x), (1, .int y)]) hx hb d_JMath_floorMod_3 rfl hl (by decide) rfl (fun ls hl => ?_)
  refine lv_iload_n hx hb d_JMath_floorMod_4 rfl (lv_at hl 1 rfl) ?_
  refine lv_iload_n hx hb d_JMath_floorMod_5 rfl (lv_at hl 2 rfl) ?_
  refine lv_ixor hx hb d_JMath_floorMod_6 ?_
  refine lv_if_ge (tgt := 18) hx hb d_JMath_floorMod_7 rfl (fun ht1 => ?_) (fun hf2 => ?_)
  · refine lv_iload_n hx hb d_JMath_floorMod_18 rfl (lv_at hl 0 rfl) ?_
    exact Ct.iret hx hb hr hnl hW (by decide) (by decide) d_JMath_floorMod_19 ⟨by first | rfl | (simp only [o_JMath_floorMod_r, if_pos ht1]), by first | rfl | (simp only [o_JMath_floorMod_r, if_pos ht1])⟩
  · refine lv_iload_n hx hb d_JMath_floorMod_10 rfl (lv_at hl 0 rfl) ?_
    refine lv_if_eq (tgt := 18) hx hb d_JMath_floorMod_11 rfl (fun ht3 => ?_) (fun hf4 => ?_)
    · refine lv_iload_n hx hb d_JMath_floorMod_18 rfl (lv_at hl 0 rfl) ?_
      exact Ct.iret hx hb hr hnl hW (by decide) (by decide) d_JMath_floorMod_19 ⟨by first | rfl | (simp only [o_JMath_floorMod_r, if_neg hf2, if_pos ht3]), by first | rfl | (simp only [o_JMath_floorMod_r, if_neg hf2, if_pos ht3])⟩
    · refine lv_iload_n hx hb d_JMath_floorMod_14 rfl (lv_at hl 0 rfl) ?_
      refine lv_iload_n hx hb d_JMath_floorMod_15 rfl (lv_at hl 2 rfl) ?_
      refine lv_iadd hx hb d_JMath_floorMod_16 ?_
      exact Ct.iret hx hb hr hnl hW (by decide) (by decide) d_JMath_floorMod_17 ⟨by first | rfl | (simp only [o_JMath_floorMod_r, if_neg hf2, if_neg hf4]), by first | rfl | (simp only [o_JMath_floorMod_r, if_neg hf2, if_neg hf4])⟩

abbrev rm_JMath_min_0 : Room := { frames := 0, cells := 0, slots := 0, locals := 0 }
set_option maxHeartbeats 4000000 in
set_option maxRecDepth 100000 in
theorem c_JMath_min_0 (l : Launch) (G : Gt) (x : Int32) (y : Int32) (hs0 : y < x) : Ct l G y_JMath_min b_JMath_min 2 (some .int) rm_JMath_min_0 [.int x, .int y] [] 0 0 (fun v w' => v = some (.int y) ∧ w' = []) := by
  refine Ct.ofF (by decide +kernel) (Nat.le_of_ble_eq_true rfl) (fun p e s m args below meth c A ls H locs hx hb hml hr hnl hown hts hnm hK hA hl hW => ?_)
  have hl : lv_has ls 2 [(0, .int x), (1, .int y)] := hl
  refine lv_iload_n hx hb d_JMath_min_0 rfl (lv_at hl 0 rfl) ?_
  refine lv_iload_n hx hb d_JMath_min_1 rfl (lv_at hl 1 rfl) ?_
  refine lv_icmp_gt (tgt := 9) hx hb d_JMath_min_2 rfl (fun _ => ?_) (fun hz => absurd hs0 hz)
  refine lv_iload_n hx hb d_JMath_min_9 rfl (lv_at hl 1 rfl) ?_
  exact Ct.iret hx hb hr hnl hW (by decide) (by decide) d_JMath_min_10 ⟨rfl, rfl⟩

abbrev rm_JMath_min_1 : Room := { frames := 0, cells := 0, slots := 0, locals := 0 }
set_option maxHeartbeats 4000000 in
set_option maxRecDepth 100000 in
theorem c_JMath_min_1 (l : Launch) (G : Gt) (x : Int32) (y : Int32) (hs0 : ¬ (y < x)) : Ct l G y_JMath_min b_JMath_min 2 (some .int) rm_JMath_min_1 [.int x, .int y] [] 0 0 (fun v w' => v = some (.int x) ∧ w' = []) := by
  refine Ct.ofF (by decide +kernel) (Nat.le_of_ble_eq_true rfl) (fun p e s m args below meth c A ls H locs hx hb hml hr hnl hown hts hnm hK hA hl hW => ?_)
  have hl : lv_has ls 2 [(0, .int x), (1, .int y)] := hl
  refine lv_iload_n hx hb d_JMath_min_0 rfl (lv_at hl 0 rfl) ?_
  refine lv_iload_n hx hb d_JMath_min_1 rfl (lv_at hl 1 rfl) ?_
  refine lv_icmp_gt (tgt := 9) hx hb d_JMath_min_2 rfl (fun hz => absurd hz hs0) (fun _ => ?_)
  refine lv_iload_n hx hb d_JMath_min_5 rfl (lv_at hl 0 rfl) ?_
  refine lv_goto (tgt := 10) hx hb d_JMath_min_6 rfl ?_
  exact Ct.iret hx hb hr hnl hW (by decide) (by decide) d_JMath_min_10 ⟨rfl, rfl⟩

abbrev rm_JMath_max_0 : Room := { frames := 0, cells := 0, slots := 0, locals := 0 }
set_option maxHeartbeats 4000000 in
set_option maxRecDepth 100000 in
theorem c_JMath_max_0 (l : Launch) (G : Gt) (x : Int32) (y : Int32) (hs0 : x < y) : Ct l G y_JMath_max b_JMath_max 2 (some .int) rm_JMath_max_0 [.int x, .int y] [] 0 0 (fun v w' => v = some (.int y) ∧ w' = []) := by
  refine Ct.ofF (by decide +kernel) (Nat.le_of_ble_eq_true rfl) (fun p e s m args below meth c A ls H locs hx hb hml hr hnl hown hts hnm hK hA hl hW => ?_)
  have hl : lv_has ls 2 [(0, .int x), (1, .int y)] := hl
  refine lv_iload_n hx hb d_JMath_max_0 rfl (lv_at hl 0 rfl) ?_
  refine lv_iload_n hx hb d_JMath_max_1 rfl (lv_at hl 1 rfl) ?_
  refine lv_icmp_lt (tgt := 9) hx hb d_JMath_max_2 rfl (fun _ => ?_) (fun hz => absurd hs0 hz)
  refine lv_iload_n hx hb d_JMath_max_9 rfl (lv_at hl 1 rfl) ?_
  exact Ct.iret hx hb hr hnl hW (by decide) (by decide) d_JMath_max_10 ⟨rfl, rfl⟩

abbrev rm_JMath_max_1 : Room := { frames := 0, cells := 0, slots := 0, locals := 0 }
set_option maxHeartbeats 4000000 in
set_option maxRecDepth 100000 in
theorem c_JMath_max_1 (l : Launch) (G : Gt) (x : Int32) (y : Int32) (hs0 : ¬ (x < y)) : Ct l G y_JMath_max b_JMath_max 2 (some .int) rm_JMath_max_1 [.int x, .int y] [] 0 0 (fun v w' => v = some (.int x) ∧ w' = []) := by
  refine Ct.ofF (by decide +kernel) (Nat.le_of_ble_eq_true rfl) (fun p e s m args below meth c A ls H locs hx hb hml hr hnl hown hts hnm hK hA hl hW => ?_)
  have hl : lv_has ls 2 [(0, .int x), (1, .int y)] := hl
  refine lv_iload_n hx hb d_JMath_max_0 rfl (lv_at hl 0 rfl) ?_
  refine lv_iload_n hx hb d_JMath_max_1 rfl (lv_at hl 1 rfl) ?_
  refine lv_icmp_lt (tgt := 9) hx hb d_JMath_max_2 rfl (fun hz => absurd hz hs0) (fun _ => ?_)
  refine lv_iload_n hx hb d_JMath_max_5 rfl (lv_at hl 0 rfl) ?_
  refine lv_goto (tgt := 10) hx hb d_JMath_max_6 rfl ?_
  exact Ct.iret hx hb hr hnl hW (by decide) (by decide) d_JMath_max_10 ⟨rfl, rfl⟩

abbrev rm_Office_draw : Room := { frames := 1, cells := 0, slots := 0, locals := 22 }
set_option maxHeartbeats 4000000 in
set_option maxRecDepth 100000 in
theorem c_Office_draw (l : Launch) (G : Gt) (h0 : Nat) (h1 : Nat) (h2 : Nat) (ch : Int64) (x : Int32) (hy : ¬ x = 0) : Ct l G y_Office_draw b_Office_draw 2 (some .int) rm_Office_draw [.ref h0, .int x] [(h0, .inr (5, [.ref h1, .ref h2, .long ch]))] 0 0 (fun v w' => v = some (.int (o_JMath_floorMod_r (((((ch * 6364136223846793005) + 1442695040888963407).toUInt64 >>> ((32 : Int32).toInt64.toUInt64 &&& Int64.toUInt64 63)).toInt64).toInt32) x)) ∧ w' = [(h0, .inr (5, [.ref h1, .ref h2, .long ((ch * 6364136223846793005) + 1442695040888963407)]))]) := by
  refine Ct.of (by decide) (Nat.le_of_ble_eq_true rfl) (fun p e s m args below meth c A ls H locs hx hb hml hr hnl hown hts hnm hK hA hl hW => ?_)
  have hl : lv_has ls 2 [(0, .ref h0), (1, .int x)] := hl
  refine lv_aload_n hx hb d_Office_draw_0 rfl (lv_at hl 0 rfl) ?_
  refine lv_aload_n hx hb d_Office_draw_1 rfl (lv_at hl 0 rfl) ?_
  refine Wd.get hx hb hts hown hK hW 0 2 in_Office w_fl_Office_38 (by decide) d_Office_draw_2 rfl rfl rfl ?_
  refine lv_ldc2 (v := 6364136223846793005) hx hb hown (hts _ w_kl_Office_69) d_Office_draw_5 ?_
  refine lv_lmul hx hb d_Office_draw_8 ?_
  refine lv_ldc2 (v := 1442695040888963407) hx hb hown (hts _ w_kl_Office_71) d_Office_draw_9 ?_
  refine lv_ladd hx hb d_Office_draw_12 ?_
  refine Wd.put hx hb hts hown hK hW 0 2 in_Office t_Office_ok n_Office w_fl_Office_38 (by decide) d_Office_draw_13 rfl rfl rfl rfl rfl (Nat.le_of_ble_eq_true rfl) (fun H locs hW => ?_)
  have hW : Wd G A s.heap [(h0, .inr (5, [.ref h1, .ref h2, .long ((ch * 6364136223846793005) + 1442695040888963407)]))] H locs := hW
  refine lv_aload_n hx hb d_Office_draw_16 rfl (lv_at hl 0 rfl) ?_
  refine Wd.get hx hb hts hown hK hW 0 2 in_Office w_fl_Office_38 (by decide) d_Office_draw_17 rfl rfl rfl ?_
  refine lv_bipush (v := 32) hx hb d_Office_draw_20 (by decide) ?_
  refine lv_lushr (v := (((ch * 6364136223846793005) + 1442695040888963407).toUInt64 >>> ((32 : Int32).toInt64.toUInt64 &&& Int64.toUInt64 63)).toInt64) hx hb d_Office_draw_22 rfl ?_
  refine lv_l2i (v := ((((ch * 6364136223846793005) + 1442695040888963407).toUInt64 >>> ((32 : Int32).toInt64.toUInt64 &&& Int64.toUInt64 63)).toInt64).toInt32) hx hb d_Office_draw_23 rfl ?_
  refine lv_iload_n hx hb d_Office_draw_24 rfl (lv_at hl 1 rfl) ?_
  refine Ct.callS (As := [.int (((((ch * 6364136223846793005) + 1442695040888963407).toUInt64 >>> ((32 : Int32).toInt64.toUInt64 &&& Int64.toUInt64 63)).toInt64).toInt32), .int x]) (rest := []) hx hb hml hown hts hK hA hl.1 hW (c_JMath_floorMod l G (((((ch * 6364136223846793005) + 1442695040888963407).toUInt64 >>> ((32 : Int32).toInt64.toUInt64 &&& Int64.toUInt64 63)).toInt64).toInt32) x hy) (va_cwS 2 hts (good_S w_ml_Office_73 w_st_JMath_floorMod w_ini_JMath w_code_JMath_floorMod) rfl rfl rfl yd_JMath_floorMod.2 ⟨by decide, by decide⟩) [] (by decide) rfl rfl rfl (Nat.le_of_ble_eq_true rfl) d_Office_draw_25 ⟨by decide, by decide⟩ (fun v w' hp => by obtain ⟨-, rfl⟩ := hp; exact Nat.le_of_ble_eq_true rfl) (fun v w' H locs hp hW => ?_)
  obtain ⟨rfl, rfl⟩ := hp
  have hW : Wd G A s.heap [(h0, .inr (5, [.ref h1, .ref h2, .long ((ch * 6364136223846793005) + 1442695040888963407)]))] H locs := hW
  refine W.eq (g2 := F0 m 28 ls [.int (o_JMath_floorMod_r (((((ch * 6364136223846793005) + 1442695040888963407).toUInt64 >>> ((32 : Int32).toInt64.toUInt64 &&& Int64.toUInt64 63)).toInt64).toInt32) x)]) rfl ?_
  exact Ct.iret hx hb hr hnl hW (by decide) (by decide) d_Office_draw_28 ⟨rfl, rfl⟩

abbrev rm_Clerk_copyOpened : Room := { frames := 1, cells := 0, slots := 0, locals := 21 }
set_option maxHeartbeats 4000000 in
set_option maxRecDepth 100000 in
theorem c_Clerk_copyOpened (l : Launch) (G : Gt) (h0 : Nat) (h0s : Nat) (h0b : Nat) (h0p : Nat) (h0o : Nat) (h0n : Nat) (h0c : Nat) (h0l : Nat) (h0r : Nat) (h0x : Nat) (h0i : Nat) (h0q : Nat) (w : Int32) (tk : Int32) (sg : Int32) (sn : Int32) (wa : Int32) (oc : Int32) (op : Nat → Int32) (h1 : Nat) (ou : Nat → Int32) (hc0 : ¬ oc < 0) (hc1 : ¬ 16 < oc) (hc2 : oc.toNatClampNeg ≤ 16) : Ct l G y_Clerk_copyOpened b_Clerk_copyOpened 2 (some .int) rm_Clerk_copyOpened [.ref h0, .ref h1] [(h0, .inr (3, [.int w, .ref h0s, .ref h0b, .ref h0p, .ref h0o, .ref h0n, .ref h0c, .ref h0l, .ref h0r, .ref h0x, .ref h0i, .int tk, .int sg, .int sn, .int wa, .ref h0q, .int oc])), (h0q, .inl (G.2 0, 16, .inl op)), (h1, .inl (G.2 0, 16, .inl ou))] 0 0 (fun v w' => v = some (.int oc) ∧ w' = [(h0, .inr (3, [.int w, .ref h0s, .ref h0b, .ref h0p, .ref h0o, .ref h0n, .ref h0c, .ref h0l, .ref h0r, .ref h0x, .ref h0i, .int tk, .int sg, .int sn, .int wa, .ref h0q, .int oc])), (h0q, .inl (G.2 0, 16, .inl op)), (h1, .inl (G.2 0, 16, .inl (va_cpy op ou 0 0 oc.toNatClampNeg)))]) := by
  refine Ct.of (by decide) (Nat.le_of_ble_eq_true rfl) (fun p e s m args below meth c A ls H locs hx hb hml hr hnl hown hts hnm hK hA hl hW => ?_)
  have hl : lv_has ls 2 [(0, .ref h0), (1, .ref h1)] := hl
  refine lv_aload_n hx hb d_Clerk_copyOpened_0 rfl (lv_at hl 0 rfl) ?_
  refine Wd.get hx hb hts hown hK hW 0 15 in_Clerk w_fl_Clerk_39 (by decide) d_Clerk_copyOpened_1 rfl rfl rfl ?_
  refine lv_iconst (v := 0) hx hb d_Clerk_copyOpened_4 (by decide) ?_
  refine lv_aload_n hx hb d_Clerk_copyOpened_5 rfl (lv_at hl 1 rfl) ?_
  refine lv_iconst (v := 0) hx hb d_Clerk_copyOpened_6 (by decide) ?_
  refine lv_aload_n hx hb d_Clerk_copyOpened_7 rfl (lv_at hl 0 rfl) ?_
  refine Wd.get hx hb hts hown hK hW 0 16 in_Clerk w_fl_Clerk_101 (by decide) d_Clerk_copyOpened_8 rfl rfl rfl ?_
  refine lv_aload_n hx hb d_Clerk_copyOpened_11 rfl (lv_at hl 1 rfl) ?_
  refine Wd.alen (v := 16) hx hb hK hW 2 0 d_Clerk_copyOpened_12 rfl rfl (by first | rfl | decide) ?_
  refine Ct.callS (As := [.int oc, .int 16]) (rest := [.int 0, .ref h1, .int 0, .ref h0q]) hx hb hml hown hts hK hA hl.1 hW (c_JMath_min_1 l G oc (16 : Int32) hc1) (va_cwS 2 hts (good_S w_ml_Clerk_108 w_st_JMath_min w_ini_JMath w_code_JMath_min) rfl rfl rfl yd_JMath_min.2 ⟨by decide, by decide⟩) [] (by decide) rfl rfl rfl (Nat.le_of_ble_eq_true rfl) d_Clerk_copyOpened_13 ⟨by decide, by decide⟩ (fun v w' hp => by obtain ⟨-, rfl⟩ := hp; exact Nat.le_of_ble_eq_true rfl) (fun v w' H locs hp hW => ?_)
  obtain ⟨rfl, rfl⟩ := hp
  have hW : Wd G A s.heap [(h0, .inr (3, [.int w, .ref h0s, .ref h0b, .ref h0p, .ref h0o, .ref h0n, .ref h0c, .ref h0l, .ref h0r, .ref h0x, .ref h0i, .int tk, .int sg, .int sn, .int wa, .ref h0q, .int oc])), (h0q, .inl (G.2 0, 16, .inl op)), (h1, .inl (G.2 0, 16, .inl ou))] H locs := hW
  refine W.eq (g2 := F0 m 16 ls [.int oc, .int 0, .ref h1, .int 0, .ref h0q]) rfl ?_
  refine Wd.copyi (sp := 0) (dp := 0) hx hb (hml.trans hl.1.symm) hts hown hK hW 1 2 0 w_ml_Clerk_114 d_Clerk_copyOpened_16 rfl rfl rfl rfl (by decide) (by decide) hc0 (Nat.le_trans (Nat.le_of_eq (Nat.zero_add _)) hc2) (Nat.le_trans (Nat.le_of_eq (Nat.zero_add _)) hc2) (fun _ _ => rfl) (by decide) (Nat.le_of_ble_eq_true rfl) (fun H locs hW => ?_)
  have hW : Wd G A s.heap [(h0, .inr (3, [.int w, .ref h0s, .ref h0b, .ref h0p, .ref h0o, .ref h0n, .ref h0c, .ref h0l, .ref h0r, .ref h0x, .ref h0i, .int tk, .int sg, .int sn, .int wa, .ref h0q, .int oc])), (h0q, .inl (G.2 0, 16, .inl op)), (h1, .inl (G.2 0, 16, .inl (va_cpy op ou 0 0 oc.toNatClampNeg)))] H locs := hW
  refine lv_aload_n hx hb d_Clerk_copyOpened_19 rfl (lv_at hl 0 rfl) ?_
  refine Wd.get hx hb hts hown hK hW 0 16 in_Clerk w_fl_Clerk_101 (by decide) d_Clerk_copyOpened_20 rfl rfl rfl ?_
  refine lv_aload_n hx hb d_Clerk_copyOpened_23 rfl (lv_at hl 1 rfl) ?_
  refine Wd.alen (v := 16) hx hb hK hW 2 0 d_Clerk_copyOpened_24 rfl rfl (by first | rfl | decide) ?_
  refine Ct.callS (As := [.int oc, .int 16]) (rest := []) hx hb hml hown hts hK hA hl.1 hW (c_JMath_min_1 l G oc (16 : Int32) hc1) (va_cwS 2 hts (good_S w_ml_Clerk_108 w_st_JMath_min w_ini_JMath w_code_JMath_min) rfl rfl rfl yd_JMath_min.2 ⟨by decide, by decide⟩) [] (by decide) rfl rfl rfl (Nat.le_of_ble_eq_true rfl) d_Clerk_copyOpened_25 ⟨by decide, by decide⟩ (fun v w' hp => by obtain ⟨-, rfl⟩ := hp; exact Nat.le_of_ble_eq_true rfl) (fun v w' H locs hp hW => ?_)
  obtain ⟨rfl, rfl⟩ := hp
  have hW : Wd G A s.heap [(h0, .inr (3, [.int w, .ref h0s, .ref h0b, .ref h0p, .ref h0o, .ref h0n, .ref h0c, .ref h0l, .ref h0r, .ref h0x, .ref h0i, .int tk, .int sg, .int sn, .int wa, .ref h0q, .int oc])), (h0q, .inl (G.2 0, 16, .inl op)), (h1, .inl (G.2 0, 16, .inl (va_cpy op ou 0 0 oc.toNatClampNeg)))] H locs := hW
  refine W.eq (g2 := F0 m 28 ls [.int oc]) rfl ?_
  exact Ct.iret hx hb hr hnl hW (by decide) (by decide) d_Clerk_copyOpened_28 ⟨rfl, rfl⟩

abbrev rm_Office_copyOpened : Room := { frames := 2, cells := 0, slots := 0, locals := 42 }
set_option maxHeartbeats 4000000 in
set_option maxRecDepth 100000 in
theorem c_Office_copyOpened (l : Launch) (G : Gt) (h0 : Nat) (h1 : Nat) (h2 : Nat) (cf : Nat → Option Nat) (ch : Int64) (c0 : Nat) (c0s : Nat) (c0b : Nat) (c0p : Nat) (c0o : Nat) (c0n : Nat) (c0c : Nat) (c0l : Nat) (c0r : Nat) (c0x : Nat) (c0i : Nat) (c0q : Nat) (S0 : CkT) (h3 : Nat) (ou : Nat → Int32) (hcf0 : cf 0 = some c0) (hc0 : ¬ S0.2.2.2.2.2.2 < 0) (hc1 : ¬ 16 < S0.2.2.2.2.2.2) (hc2 : S0.2.2.2.2.2.2.toNatClampNeg ≤ 16) : Ct l G y_Office_copyOpened b_Office_copyOpened 2 (some .int) rm_Office_copyOpened [.ref h0, .ref h3] [(h0, .inr (5, [.ref h1, .ref h2, .long ch])), (h2, .inl (G.2 4, 3, .inr (.inr (.inr (.inr cf))))), (c0, .inr (3, [.int 0, .ref c0s, .ref c0b, .ref c0p, .ref c0o, .ref c0n, .ref c0c, .ref c0l, .ref c0r, .ref c0x, .ref c0i, .int S0.2.2.2.2.1.1, .int S0.2.2.2.2.1.2.1, .int S0.2.2.2.2.1.2.2.1, .int S0.2.2.2.2.1.2.2.2, .ref c0q, .int S0.2.2.2.2.2.2])), (c0q, .inl (G.2 0, 16, .inl S0.2.2.2.2.2.1)), (h3, .inl (G.2 0, 16, .inl ou))] 0 0 (fun v w' => v = some (.int S0.2.2.2.2.2.2) ∧ w' = [(h0, .inr (5, [.ref h1, .ref h2, .long ch])), (h2, .inl (G.2 4, 3, .inr (.inr (.inr (.inr cf))))), (c0, .inr (3, [.int 0, .ref c0s, .ref c0b, .ref c0p, .ref c0o, .ref c0n, .ref c0c, .ref c0l, .ref c0r, .ref c0x, .ref c0i, .int S0.2.2.2.2.1.1, .int S0.2.2.2.2.1.2.1, .int S0.2.2.2.2.1.2.2.1, .int S0.2.2.2.2.1.2.2.2, .ref c0q, .int S0.2.2.2.2.2.2])), (c0q, .inl (G.2 0, 16, .inl S0.2.2.2.2.2.1)), (h3, .inl (G.2 0, 16, .inl (va_cpy S0.2.2.2.2.2.1 ou 0 0 S0.2.2.2.2.2.2.toNatClampNeg)))]) := by
  refine Ct.of (by decide) (Nat.le_of_ble_eq_true rfl) (fun p e s m args below meth c A ls H locs hx hb hml hr hnl hown hts hnm hK hA hl hW => ?_)
  have hl : lv_has ls 2 [(0, .ref h0), (1, .ref h3)] := hl
  refine lv_aload_n hx hb d_Office_copyOpened_0 rfl (lv_at hl 0 rfl) ?_
  refine Wd.get hx hb hts hown hK hW 0 1 in_Office w_fl_Office_20 (by decide) d_Office_copyOpened_1 rfl rfl rfl ?_
  refine lv_iconst (v := 0) hx hb d_Office_copyOpened_4 (by decide) ?_
  refine Wd.aald hx hb hK hW 1 4 d_Office_copyOpened_5 rfl rfl (by unfold vp_in; decide) hcf0 ?_
  refine lv_aload_n hx hb d_Office_copyOpened_6 rfl (lv_at hl 1 rfl) ?_
  refine Ct.callV (As := [.ref h3]) (rest := []) hx hb hml hown hts hK hA hl.1 hW (c_Clerk_copyOpened l G c0 c0s c0b c0p c0o c0n c0c c0l c0r c0x c0i c0q (0 : Int32) S0.2.2.2.2.1.1 S0.2.2.2.2.1.2.1 S0.2.2.2.2.1.2.2.1 S0.2.2.2.2.1.2.2.2 S0.2.2.2.2.2.2 S0.2.2.2.2.2.1 h3 ou (by first | assumption | omega | decide) (by first | assumption | omega | decide) (by first | assumption | omega | decide)) (cwV 1 hts (good_V w_ml_Office_79 w_im_Clerk_copyOpened w_se_Clerk_copyOpened w_ini_Clerk w_code_Clerk_copyOpened) rfl rfl rfl yd_Clerk_copyOpened ⟨by decide, by decide⟩) [2, 3, 4] (by decide) rfl (ci := 3) (r := vr_Clerk) rfl rfl rfl rfl rfl (Nat.le_of_ble_eq_true rfl) d_Office_copyOpened_7 ⟨by decide, by decide⟩ (fun v w' hp => by obtain ⟨-, rfl⟩ := hp; exact Nat.le_of_ble_eq_true rfl) (fun v w' H locs hp hW => ?_)
  obtain ⟨rfl, rfl⟩ := hp
  have hW : Wd G A s.heap [(h0, .inr (5, [.ref h1, .ref h2, .long ch])), (h2, .inl (G.2 4, 3, .inr (.inr (.inr (.inr cf))))), (c0, .inr (3, [.int 0, .ref c0s, .ref c0b, .ref c0p, .ref c0o, .ref c0n, .ref c0c, .ref c0l, .ref c0r, .ref c0x, .ref c0i, .int S0.2.2.2.2.1.1, .int S0.2.2.2.2.1.2.1, .int S0.2.2.2.2.1.2.2.1, .int S0.2.2.2.2.1.2.2.2, .ref c0q, .int S0.2.2.2.2.2.2])), (c0q, .inl (G.2 0, 16, .inl S0.2.2.2.2.2.1)), (h3, .inl (G.2 0, 16, .inl (va_cpy S0.2.2.2.2.2.1 ou 0 0 S0.2.2.2.2.2.2.toNatClampNeg)))] H locs := hW
  refine W.eq (g2 := F0 m 10 ls [.int S0.2.2.2.2.2.2]) rfl ?_
  exact Ct.iret hx hb hr hnl hW (by decide) (by decide) d_Office_copyOpened_10 ⟨rfl, rfl⟩

abbrev rm_Office_deal : Room := { frames := 1, cells := 0, slots := 0, locals := 23 }
set_option maxHeartbeats 4000000 in
set_option maxRecDepth 100000 in
theorem c_Office_deal (l : Launch) (G : Gt) (h0 : Nat) (h1 : Nat) (h2 : Nat) (cf : Nat → Option Nat) (ch : Int64) (c0 : Nat) (c0s : Nat) (c0b : Nat) (c0p : Nat) (c0o : Nat) (c0n : Nat) (c0c : Nat) (c0l : Nat) (c0r : Nat) (c0x : Nat) (c0i : Nat) (c0q : Nat) (S0 : CkT) (c1 : Nat) (c1s : Nat) (c1b : Nat) (c1p : Nat) (c1o : Nat) (c1n : Nat) (c1c : Nat) (c1l : Nat) (c1r : Nat) (c1x : Nat) (c1i : Nat) (c1q : Nat) (S1 : CkT) (c2 : Nat) (c2s : Nat) (c2b : Nat) (c2p : Nat) (c2o : Nat) (c2n : Nat) (c2c : Nat) (c2l : Nat) (c2r : Nat) (c2x : Nat) (c2i : Nat) (c2q : Nat) (S2 : CkT) (x : Int32) (y0 : Int32) (y1 : Int32) (y2 : Int32) (hcf0 : cf 0 = some c0) (hcf1 : cf 1 = some c1) (hcf2 : cf 2 = some c2) (hvx : vp_in x 34) : Ct l G y_Office_deal b_Office_deal 5 none rm_Office_deal [.ref h0, .int x, .int y0, .int y1, .int y2] [(h0, .inr (5, [.ref h1, .ref h2, .long ch])), (h2, .inl (G.2 4, 3, .inr (.inr (.inr (.inr cf))))), (c0, .inr (3, [.int 0, .ref c0s, .ref c0b, .ref c0p, .ref c0o, .ref c0n, .ref c0c, .ref c0l, .ref c0r, .ref c0x, .ref c0i, .int S0.2.2.2.2.1.1, .int S0.2.2.2.2.1.2.1, .int S0.2.2.2.2.1.2.2.1, .int S0.2.2.2.2.1.2.2.2, .ref c0q, .int S0.2.2.2.2.2.2])), (c0o, .inl (G.2 0, 34, .inl S0.1)), (c0n, .inl (G.2 0, 34, .inl S0.2.1)), (c1, .inr (3, [.int 1, .ref c1s, .ref c1b, .ref c1p, .ref c1o, .ref c1n, .ref c1c, .ref c1l, .ref c1r, .ref c1x, .ref c1i, .int S1.2.2.2.2.1.1, .int S1.2.2.2.2.1.2.1, .int S1.2.2.2.2.1.2.2.1, .int S1.2.2.2.2.1.2.2.2, .ref c1q, .int S1.2.2.2.2.2.2])), (c1o, .inl (G.2 0, 34, .inl S1.1)), (c1n, .inl (G.2 0, 34, .inl S1.2.1)), (c2, .inr (3, [.int 2, .ref c2s, .ref c2b, .ref c2p, .ref c2o, .ref c2n, .ref c2c, .ref c2l, .ref c2r, .ref c2x, .ref c2i, .int S2.2.2.2.2.1.1, .int S2.2.2.2.2.1.2.1, .int S2.2.2.2.2.1.2.2.1, .int S2.2.2.2.2.1.2.2.2, .ref c2q, .int S2.2.2.2.2.2.2])), (c2o, .inl (G.2 0, 34, .inl S2.1)), (c2n, .inl (G.2 0, 34, .inl S2.2.1))] 0 0 (fun v w' => v = none ∧ w' = [(h0, .inr (5, [.ref h1, .ref h2, .long ch])), (h2, .inl (G.2 4, 3, .inr (.inr (.inr (.inr cf))))), (c0, .inr (3, [.int 0, .ref c0s, .ref c0b, .ref c0p, .ref c0o, .ref c0n, .ref c0c, .ref c0l, .ref c0r, .ref c0x, .ref c0i, .int S0.2.2.2.2.1.1, .int S0.2.2.2.2.1.2.1, .int S0.2.2.2.2.1.2.2.1, .int S0.2.2.2.2.1.2.2.2, .ref c0q, .int S0.2.2.2.2.2.2])), (c0o, .inl (G.2 0, 34, .inl (upd S0.1 x.toNatClampNeg y0))), (c0n, .inl (G.2 0, 34, .inl (upd S0.2.1 x.toNatClampNeg y1))), (c1, .inr (3, [.int 1, .ref c1s, .ref c1b, .ref c1p, .ref c1o, .ref c1n, .ref c1c, .ref c1l, .ref c1r, .ref c1x, .ref c1i, .int S1.2.2.2.2.1.1, .int S1.2.2.2.2.1.2.1, .int S1.2.2.2.2.1.2.2.1, .int S1.2.2.2.2.1.2.2.2, .ref c1q, .int S1.2.2.2.2.2.2])), (c1o, .inl (G.2 0, 34, .inl (upd S1.1 x.toNatClampNeg y1))), (c1n, .inl (G.2 0, 34, .inl (upd S1.2.1 x.toNatClampNeg y2))), (c2, .inr (3, [.int 2, .ref c2s, .ref c2b, .ref c2p, .ref c2o, .ref c2n, .ref c2c, .ref c2l, .ref c2r, .ref c2x, .ref c2i, .int S2.2.2.2.2.1.1, .int S2.2.2.2.2.1.2.1, .int S2.2.2.2.2.1.2.2.1, .int S2.2.2.2.2.1.2.2.2, .ref c2q, .int S2.2.2.2.2.2.2])), (c2o, .inl (G.2 0, 34, .inl (upd S2.1 x.toNatClampNeg y2))), (c2n, .inl (G.2 0, 34, .inl (upd S2.2.1 x.toNatClampNeg y0)))]) := by
  refine Ct.of (by decide) (Nat.le_of_ble_eq_true rfl) (fun p e s m args below meth c A ls H locs hx hb hml hr hnl hown hts hnm hK hA hl hW => ?_)
  have hl : lv_has ls 5 [(0, .ref h0), (1, .int x), (2, .int y0), (3, .int y1), (4, .int y2)] := hl
  refine lv_aload_n hx hb d_Office_deal_0 rfl (lv_at hl 0 rfl) ?_
  refine Wd.get hx hb hts hown hK hW 0 1 in_Office w_fl_Office_20 (by decide) d_Office_deal_1 rfl rfl rfl ?_
  refine lv_iconst (v := 0) hx hb d_Office_deal_4 (by decide) ?_
  refine Wd.aald hx hb hK hW 1 4 d_Office_deal_5 rfl rfl (by unfold vp_in; decide) hcf0 ?_
  refine lv_iload_n hx hb d_Office_deal_6 rfl (lv_at hl 1 rfl) ?_
  refine lv_iload_n hx hb d_Office_deal_7 rfl (lv_at hl 2 rfl) ?_
  refine lv_iload_n hx hb d_Office_deal_8 rfl (lv_at hl 3 rfl) ?_
  refine Ct.callV (As := [.int x, .int y0, .int y1]) (rest := []) hx hb hml hown hts hK hA hl.1 hW (c_Clerk_hold l G c0 c0s c0b c0p c0o c0n c0c c0l c0r c0x c0i c0q (0 : Int32) S0.2.2.2.2.1.1 S0.2.2.2.2.1.2.1 S0.2.2.2.2.1.2.2.1 S0.2.2.2.2.1.2.2.2 S0.2.2.2.2.2.2 S0.1 S0.2.1 x y0 y1 (by first | assumption | omega | decide)) (cwV 3 hts (good_V w_ml_Office_34 w_im_Clerk_hold w_se_Clerk_hold w_ini_Clerk w_code_Clerk_hold) rfl rfl rfl yd_Clerk_hold ⟨by decide, by decide⟩) [2, 3, 4] (by decide) rfl (ci := 3) (r := vr_Clerk) rfl rfl rfl rfl rfl (Nat.le_of_ble_eq_true rfl) d_Office_deal_9 ⟨by decide, by decide⟩ (fun v w' hp => by obtain ⟨-, rfl⟩ := hp; exact Nat.le_of_ble_eq_true rfl) (fun v w' H locs hp hW => ?_)
  obtain ⟨rfl, rfl⟩ := hp
  have hW : Wd G A s.heap [(h0, .inr (5, [.ref h1, .ref h2, .long ch])), (h2, .inl (G.2 4, 3, .inr (.inr (.inr (.inr cf))))), (c0, .inr (3, [.int 0, .ref c0s, .ref c0b, .ref c0p, .ref c0o, .ref c0n, .ref c0c, .ref c0l, .ref c0r, .ref c0x, .ref c0i, .int S0.2.2.2.2.1.1, .int S0.2.2.2.2.1.2.1, .int S0.2.2.2.2.1.2.2.1, .int S0.2.2.2.2.1.2.2.2, .ref c0q, .int S0.2.2.2.2.2.2])), (c0o, .inl (G.2 0, 34, .inl (upd S0.1 x.toNatClampNeg y0))), (c0n, .inl (G.2 0, 34, .inl (upd S0.2.1 x.toNatClampNeg y1))), (c1, .inr (3, [.int 1, .ref c1s, .ref c1b, .ref c1p, .ref c1o, .ref c1n, .ref c1c, .ref c1l, .ref c1r, .ref c1x, .ref c1i, .int S1.2.2.2.2.1.1, .int S1.2.2.2.2.1.2.1, .int S1.2.2.2.2.1.2.2.1, .int S1.2.2.2.2.1.2.2.2, .ref c1q, .int S1.2.2.2.2.2.2])), (c1o, .inl (G.2 0, 34, .inl S1.1)), (c1n, .inl (G.2 0, 34, .inl S1.2.1)), (c2, .inr (3, [.int 2, .ref c2s, .ref c2b, .ref c2p, .ref c2o, .ref c2n, .ref c2c, .ref c2l, .ref c2r, .ref c2x, .ref c2i, .int S2.2.2.2.2.1.1, .int S2.2.2.2.2.1.2.1, .int S2.2.2.2.2.1.2.2.1, .int S2.2.2.2.2.1.2.2.2, .ref c2q, .int S2.2.2.2.2.2.2])), (c2o, .inl (G.2 0, 34, .inl S2.1)), (c2n, .inl (G.2 0, 34, .inl S2.2.1))] H locs := hW
  refine W.eq (g2 := F0 m 12 ls []) rfl ?_
  refine lv_aload_n hx hb d_Office_deal_12 rfl (lv_at hl 0 rfl) ?_
  refine Wd.get hx hb hts hown hK hW 0 1 in_Office w_fl_Office_20 (by decide) d_Office_deal_13 rfl rfl rfl ?_
  refine lv_iconst (v := 1) hx hb d_Office_deal_16 (by decide) ?_
  refine Wd.aald hx hb hK hW 1 4 d_Office_deal_17 rfl rfl (by unfold vp_in; decide) hcf1 ?_
  refine lv_iload_n hx hb d_Office_deal_18 rfl (lv_at hl 1 rfl) ?_
  refine lv_iload_n hx hb d_Office_deal_19 rfl (lv_at hl 3 rfl) ?_
  refine lv_iload hx hb d_Office_deal_20 (lv_at hl 4 rfl) ?_
  refine Ct.callV (As := [.int x, .int y1, .int y2]) (rest := []) hx hb hml hown hts hK hA hl.1 hW (c_Clerk_hold l G c1 c1s c1b c1p c1o c1n c1c c1l c1r c1x c1i c1q (1 : Int32) S1.2.2.2.2.1.1 S1.2.2.2.2.1.2.1 S1.2.2.2.2.1.2.2.1 S1.2.2.2.2.1.2.2.2 S1.2.2.2.2.2.2 S1.1 S1.2.1 x y1 y2 (by first | assumption | omega | decide)) (cwV 3 hts (good_V w_ml_Office_34 w_im_Clerk_hold w_se_Clerk_hold w_ini_Clerk w_code_Clerk_hold) rfl rfl rfl yd_Clerk_hold ⟨by decide, by decide⟩) [5, 6, 7] (by decide) rfl (ci := 3) (r := vr_Clerk) rfl rfl rfl rfl rfl (Nat.le_of_ble_eq_true rfl) d_Office_deal_22 ⟨by decide, by decide⟩ (fun v w' hp => by obtain ⟨-, rfl⟩ := hp; exact Nat.le_of_ble_eq_true rfl) (fun v w' H locs hp hW => ?_)
  obtain ⟨rfl, rfl⟩ := hp
  have hW : Wd G A s.heap [(h0, .inr (5, [.ref h1, .ref h2, .long ch])), (h2, .inl (G.2 4, 3, .inr (.inr (.inr (.inr cf))))), (c0, .inr (3, [.int 0, .ref c0s, .ref c0b, .ref c0p, .ref c0o, .ref c0n, .ref c0c, .ref c0l, .ref c0r, .ref c0x, .ref c0i, .int S0.2.2.2.2.1.1, .int S0.2.2.2.2.1.2.1, .int S0.2.2.2.2.1.2.2.1, .int S0.2.2.2.2.1.2.2.2, .ref c0q, .int S0.2.2.2.2.2.2])), (c0o, .inl (G.2 0, 34, .inl (upd S0.1 x.toNatClampNeg y0))), (c0n, .inl (G.2 0, 34, .inl (upd S0.2.1 x.toNatClampNeg y1))), (c1, .inr (3, [.int 1, .ref c1s, .ref c1b, .ref c1p, .ref c1o, .ref c1n, .ref c1c, .ref c1l, .ref c1r, .ref c1x, .ref c1i, .int S1.2.2.2.2.1.1, .int S1.2.2.2.2.1.2.1, .int S1.2.2.2.2.1.2.2.1, .int S1.2.2.2.2.1.2.2.2, .ref c1q, .int S1.2.2.2.2.2.2])), (c1o, .inl (G.2 0, 34, .inl (upd S1.1 x.toNatClampNeg y1))), (c1n, .inl (G.2 0, 34, .inl (upd S1.2.1 x.toNatClampNeg y2))), (c2, .inr (3, [.int 2, .ref c2s, .ref c2b, .ref c2p, .ref c2o, .ref c2n, .ref c2c, .ref c2l, .ref c2r, .ref c2x, .ref c2i, .int S2.2.2.2.2.1.1, .int S2.2.2.2.2.1.2.1, .int S2.2.2.2.2.1.2.2.1, .int S2.2.2.2.2.1.2.2.2, .ref c2q, .int S2.2.2.2.2.2.2])), (c2o, .inl (G.2 0, 34, .inl S2.1)), (c2n, .inl (G.2 0, 34, .inl S2.2.1))] H locs := hW
  refine W.eq (g2 := F0 m 25 ls []) rfl ?_
  refine lv_aload_n hx hb d_Office_deal_25 rfl (lv_at hl 0 rfl) ?_
  refine Wd.get hx hb hts hown hK hW 0 1 in_Office w_fl_Office_20 (by decide) d_Office_deal_26 rfl rfl rfl ?_
  refine lv_iconst (v := 2) hx hb d_Office_deal_29 (by decide) ?_
  refine Wd.aald hx hb hK hW 1 4 d_Office_deal_30 rfl rfl (by unfold vp_in; decide) hcf2 ?_
  refine lv_iload_n hx hb d_Office_deal_31 rfl (lv_at hl 1 rfl) ?_
  refine lv_iload hx hb d_Office_deal_32 (lv_at hl 4 rfl) ?_
  refine lv_iload_n hx hb d_Office_deal_34 rfl (lv_at hl 2 rfl) ?_
  refine Ct.callV (As := [.int x, .int y2, .int y0]) (rest := []) hx hb hml hown hts hK hA hl.1 hW (c_Clerk_hold l G c2 c2s c2b c2p c2o c2n c2c c2l c2r c2x c2i c2q (2 : Int32) S2.2.2.2.2.1.1 S2.2.2.2.2.1.2.1 S2.2.2.2.2.1.2.2.1 S2.2.2.2.2.1.2.2.2 S2.2.2.2.2.2.2 S2.1 S2.2.1 x y2 y0 (by first | assumption | omega | decide)) (cwV 3 hts (good_V w_ml_Office_34 w_im_Clerk_hold w_se_Clerk_hold w_ini_Clerk w_code_Clerk_hold) rfl rfl rfl yd_Clerk_hold ⟨by decide, by decide⟩) [8, 9, 10] (by decide) rfl (ci := 3) (r := vr_Clerk) rfl rfl rfl rfl rfl (Nat.le_of_ble_eq_true rfl) d_Office_deal_35 ⟨by decide, by decide⟩ (fun v w' hp => by obtain ⟨-, rfl⟩ := hp; exact Nat.le_of_ble_eq_true rfl) (fun v w' H locs hp hW => ?_)
  obtain ⟨rfl, rfl⟩ := hp
  have hW : Wd G A s.heap [(h0, .inr (5, [.ref h1, .ref h2, .long ch])), (h2, .inl (G.2 4, 3, .inr (.inr (.inr (.inr cf))))), (c0, .inr (3, [.int 0, .ref c0s, .ref c0b, .ref c0p, .ref c0o, .ref c0n, .ref c0c, .ref c0l, .ref c0r, .ref c0x, .ref c0i, .int S0.2.2.2.2.1.1, .int S0.2.2.2.2.1.2.1, .int S0.2.2.2.2.1.2.2.1, .int S0.2.2.2.2.1.2.2.2, .ref c0q, .int S0.2.2.2.2.2.2])), (c0o, .inl (G.2 0, 34, .inl (upd S0.1 x.toNatClampNeg y0))), (c0n, .inl (G.2 0, 34, .inl (upd S0.2.1 x.toNatClampNeg y1))), (c1, .inr (3, [.int 1, .ref c1s, .ref c1b, .ref c1p, .ref c1o, .ref c1n, .ref c1c, .ref c1l, .ref c1r, .ref c1x, .ref c1i, .int S1.2.2.2.2.1.1, .int S1.2.2.2.2.1.2.1, .int S1.2.2.2.2.1.2.2.1, .int S1.2.2.2.2.1.2.2.2, .ref c1q, .int S1.2.2.2.2.2.2])), (c1o, .inl (G.2 0, 34, .inl (upd S1.1 x.toNatClampNeg y1))), (c1n, .inl (G.2 0, 34, .inl (upd S1.2.1 x.toNatClampNeg y2))), (c2, .inr (3, [.int 2, .ref c2s, .ref c2b, .ref c2p, .ref c2o, .ref c2n, .ref c2c, .ref c2l, .ref c2r, .ref c2x, .ref c2i, .int S2.2.2.2.2.1.1, .int S2.2.2.2.2.1.2.1, .int S2.2.2.2.2.1.2.2.1, .int S2.2.2.2.2.1.2.2.2, .ref c2q, .int S2.2.2.2.2.2.2])), (c2o, .inl (G.2 0, 34, .inl (upd S2.1 x.toNatClampNeg y2))), (c2n, .inl (G.2 0, 34, .inl (upd S2.2.1 x.toNatClampNeg y0)))] H locs := hW
  refine W.eq (g2 := F0 m 38 ls []) rfl ?_
  exact Ct.vret hx hb hr hnl hW (by decide) (by decide) d_Office_deal_38 ⟨rfl, rfl⟩

