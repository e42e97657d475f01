/-! worlds made of blocks -/
abbrev bj (Bs : List va_W) : va_W := Bs.flatten
theorem bl_perm {α : Type} (d : α) (L : List α) (is : List Nat) (h : is.Perm (List.range L.length)) : (is.map (fun i => L.getD i d)).Perm L := by
  have h1 := h.map (fun i => L.getD i d)
  have e : (List.range L.length).map (fun i => L.getD i d) = L := by
    apply List.ext_getElem?
    intro k
    rw [List.getElem?_map]
    by_cases hk : k < L.length
    · rw [List.getElem?_range hk, List.getElem?_eq_getElem hk]
      simp [List.getD, List.getElem?_eq_getElem hk]
    · rw [List.getElem?_eq_none (by simpa using Nat.le_of_not_lt hk), List.getElem?_eq_none (Nat.le_of_not_lt hk)]
      rfl
  rw [e] at h1
  exact h1
theorem bj_perm {Bs Cs : List va_W} (h : Bs.Perm Cs) : (bj Bs).Perm (bj Cs) := h.flatten
theorem va_nd_range' : ∀ n k : Nat, va_nd (List.range' k n) = true
  | 0, _ => rfl
  | n + 1, k => by
    rw [List.range'_succ]
    simp [va_nd, va_nd_range' n (k + 1)]
theorem range_pick (wc wr : va_W) : (List.range' 0 wc.length).map (fun i => (wc ++ wr)[i]?) = wc.map some := by
  apply List.ext_getElem?
  intro k
  rw [List.getElem?_map, List.getElem?_map]
  by_cases hk : k < wc.length
  · rw [List.getElem?_range' hk]
    simp [List.getElem?_append_left hk, List.getElem?_eq_getElem hk]
  · rw [List.getElem?_eq_none (by simpa using Nat.le_of_not_lt hk), List.getElem?_eq_none (Nat.le_of_not_lt hk)]
    rfl
theorem wb_put_range (wr : va_W) : ∀ (wc pre w' : va_W), wc.length ≤ w'.length → wb_put (pre ++ (wc ++ wr)) (List.range' pre.length wc.length) w' = pre ++ (w'.take wc.length ++ (wr ++ w'.drop wc.length))
  | [], pre, w', _ => by
    cases w' <;> simp [wb_put]
  | q :: wc, pre, [], h => by simp at h
  | q :: wc, pre, q' :: w', h => by
    have h1 : List.range' pre.length (q :: wc).length = pre.length :: List.range' (pre.length + 1) wc.length := by rw [List.length_cons, List.range'_succ]
    rw [h1]
    show wb_put ((pre ++ (q :: wc ++ wr)).set pre.length q') (List.range' (pre.length + 1) wc.length) w' = _
    have e : (pre ++ (q :: wc ++ wr)).set pre.length q' = (pre ++ [q']) ++ (wc ++ wr) := by simp
    rw [e]
    have h2 := wb_put_range wr wc (pre ++ [q']) w' (by simpa using h)
    rw [List.length_append, List.length_singleton] at h2
    rw [h2]
    simp
theorem Wd.putR {G : Gt} {A : Nat → Prop} {H0 H : Heap} {wc wr w' : va_W} {locs : List Loc} (hW : Wd G A H0 (wb_put (wc ++ wr) (List.range' 0 wc.length) w') H locs) (hl : wc.length ≤ w'.length) : Wd G A H0 (wr ++ w') H locs := by
  refine hW.perm ?_
  have e := wb_put_range wr wc [] w' hl
  rw [List.nil_append, List.nil_append, List.length_nil] at e
  rw [e]
  have h1 : (wr ++ w').Perm (wr ++ (w'.take wc.length ++ w'.drop wc.length)) := by rw [List.take_append_drop]
  refine h1.trans ?_
  rw [← List.append_assoc, ← List.append_assoc]
  exact List.perm_append_comm.append_right _
theorem Wd.blk {G : Gt} {A : Nat → Prop} {H0 H : Heap} {rs bs Bs : List va_W} {locs : List Loc} (hW : Wd G A H0 (bj rs ++ bj bs) H locs) (is : List Nat) (h : is.Perm (List.range (rs ++ bs).length)) (he : is.map (fun i => (rs ++ bs).getD i []) = Bs) : Wd G A H0 (bj Bs) H locs := by
  refine hW.perm ?_
  have e : bj rs ++ bj bs = bj (rs ++ bs) := (List.flatten_append).symm
  rw [e, ← he]
  exact bj_perm (bl_perm [] _ is h)
theorem bl_pick {bs rs Bs : List va_W} (is : List Nat) (h : is.Perm (List.range Bs.length)) (he : is.map (fun i => Bs.getD i []) = bs ++ rs) : (bj bs ++ bj rs).Perm (bj Bs) := by
  have e : bj bs ++ bj rs = bj (bs ++ rs) := (List.flatten_append).symm
  rw [e, ← he]
  exact bj_perm (bl_perm [] _ is h)
theorem Ct.weakenP {l : Launch} {G : Gt} {y : MethodName} {bc : ByteArray} {mL : Nat} {ret : Option FieldType} {rm : Room} {av : List Value} {w : va_W} {mc ms : Nat} {post post' : Option Value → va_W → Prop} (hM : Ct l G y bc mL ret rm av w mc ms post) (h : ∀ v w', post v w' → ∃ w'' : va_W, w''.Perm w' ∧ post' v w'') : Ct l G y bc mL ret rm av w mc ms post' := by
  intro sz p e h1 h2 h3 s m args below h4 h5 hP hK
  obtain ⟨n, o, a1, a2, a3, ⟨⟨v, w1, hv, hp, hP1, hD1⟩, hz⟩, r⟩ := hM sz p e h1 h2 h3 s m args below h4 h5 hP trivial
  obtain ⟨w2, hpm, hp2⟩ := h _ _ hp
  have hW := Wd.perm (G := G) (H0 := (stepsAlone p.tables e n s).heap) (locs := []) ⟨hP1, hD1, va_S.rf⟩ hpm
  exact ⟨n, o, a1, a2, a3, ⟨⟨v, w2, hv, hp2, hW.1, hW.2.1⟩, hz⟩, r⟩
section CB
variable {p : Program} {l : Launch} {e : Env} {R : Room} {s : State} {m : MethodId} {args : Array Value} {below : List Frame} {meth : Method} {c : Code} {H : Heap} {locs : List Loc} {cells slots : Nat} {Q : State → Prop}
variable {cc : ByteArray} {pc : Nat} {ls : Array Slot} {rest st0 : List Value} {G : Gt} {V : Ev} {A : Nat → Prop} {ws wc wr w' : va_W} {mc ms : Nat} {post : Option Value → va_W → Prop}
variable {y : MethodName} {bc : ByteArray} {mL nL n index : Nat} {ret : Option FieldType} {rm : Room} {own C host : String} {b : Nat} {As : List Value}
theorem Ct.callVB (hx : p.tables.exec = Jvm.exec) (hb : c.code = cc) (hml : c.maxLocals = nL) (hown : s.vm.findClass own = some m.cls) (hts : ∀ w ∈ wsA, w.before args s = true) (hK : KX G s) (hA : ∀ q, s.heap.size ≤ q → A q) (hsz : ls.size = nL) (hW : Wd G A s.heap ws H locs) (hpm : (wc ++ wr).Perm ws)
    (hM : Ct l G y bc mL ret rm (.ref b :: As) wc mc ms post) (cw : CallW R s args own C index y bc mL ret (Cond.code y bc mL ret :: wsA) rm mc ms n) {ci : Nat} {r : vw_C} {fs : List Value} (hci : vcl[ci]? = some r) (hrc : r.1 = C) (h0 : wc[0]? = some (b, .inr (ci, fs)))
    (hAs : As.length = n) (hst : st0 = As.reverse ++ .ref b :: rest) (hroom : (rest.map fun v => v.category).sum ≤ 8) (hdg : decode cc pc = .ok (.invokevirtual index, 3)) (hf : cells + mc ≤ R.cells ∧ slots + ms ≤ R.slots) (hlen : ∀ v w', post v w' → wc.length ≤ w'.length)
    (kk : ∀ (v : Option Value) (w' : va_W) (H1 : Heap) (locs1 : List Loc), post v w' → Wd G A s.heap (wr ++ w') H1 locs1 → W p l e R s m args below meth c H1 locs1 (cells + mc) (slots + ms) Q (F0 m (pc + 3) ls (v.toList ++ rest))) : W p l e R s m args below meth c H locs cells slots Q (F0 m pc ls st0) :=
  Ct.callV hx hb hml hown hts hK hA hsz (hW.perm hpm) hM cw (List.range' 0 wc.length) (va_nd_range' _ _) (range_pick wc wr) hci hrc h0 hAs hst hroom hdg hf hlen (fun v w' H1 l1 hp hW' => kk v w' H1 l1 hp (hW'.putR (hlen v w' hp)))
theorem Ct.callIB (hx : p.tables.exec = Jvm.exec) (hb : c.code = cc) (hml : c.maxLocals = nL) (hown : s.vm.findClass own = some m.cls) (hts : ∀ w ∈ wsA, w.before args s = true) (hK : KX G s) (hA : ∀ q, s.heap.size ≤ q → A q) (hsz : ls.size = nL) (hW : Wd G A s.heap ws H locs) (hpm : (wc ++ wr).Perm ws)
    (hM : Ct l G y bc mL none rm (.ref b :: As) wc mc ms post) (cw : CallB R s args own index y bc mL none (Cond.code y bc mL none :: wsA) rm mc ms n ∧ y.name = "<init>" ∧ (Cond.instanceMethod y).before args s = true)
    (hAs : As.length = n) (hst : st0 = As.reverse ++ .ref b :: rest) (hroom : (rest.map fun v => v.category).sum ≤ 8) (hdg : decode cc pc = .ok (.invokespecial index, 3)) (hf : cells + mc ≤ R.cells ∧ slots + ms ≤ R.slots) (hlen : ∀ v w', post v w' → wc.length ≤ w'.length)
    (kk : ∀ (v : Option Value) (w' : va_W) (H1 : Heap) (locs1 : List Loc), post v w' → Wd G A s.heap (wr ++ w') H1 locs1 → W p l e R s m args below meth c H1 locs1 (cells + mc) (slots + ms) Q (F0 m (pc + 3) ls (v.toList ++ rest))) : W p l e R s m args below meth c H locs cells slots Q (F0 m pc ls st0) :=
  Ct.callI hx hb hml hown hts hK hA hsz (hW.perm hpm) hM cw (List.range' 0 wc.length) (va_nd_range' _ _) (range_pick wc wr) hAs hst hroom hdg hf hlen (fun v w' H1 l1 hp hW' => kk v w' H1 l1 hp (hW'.putR (hlen v w' hp)))
theorem Ct.callINB (hx : p.tables.exec = Jvm.exec) (hb : c.code = cc) (hml : c.maxLocals = nL) (hown : s.vm.findClass own = some m.cls) (hts : ∀ w ∈ wsA, w.before args s = true) (hK : KX G s) (hA : ∀ q, s.heap.size ≤ q → A q) (hsz : ls.size = nL) (hW : Wd G A s.heap ws H locs) (hpm : (wc ++ wr).Perm ws)
    (hM : Ct l G y bc mL none rm (.ref b :: As) wc mc ms post) (cw : va_CN R s args own index y host bc mL none (Cond.code y bc mL none :: wsA) rm mc ms n ∧ y.name = "<init>" ∧ (Cond.instanceMethod y).before args s = true)
    (hAs : As.length = n) (hst : st0 = As.reverse ++ .ref b :: rest) (hroom : (rest.map fun v => v.category).sum ≤ 8) (hdg : decode cc pc = .ok (.invokespecial index, 3)) (hf : cells + mc ≤ R.cells ∧ slots + ms ≤ R.slots) (hlen : ∀ v w', post v w' → wc.length ≤ w'.length)
    (kk : ∀ (v : Option Value) (w' : va_W) (H1 : Heap) (locs1 : List Loc), post v w' → Wd G A s.heap (wr ++ w') H1 locs1 → W p l e R s m args below meth c H1 locs1 (cells + mc) (slots + ms) Q (F0 m (pc + 3) ls (v.toList ++ rest))) : W p l e R s m args below meth c H locs cells slots Q (F0 m pc ls st0) :=
  Ct.callIN hx hb hml hown hts hK hA hsz (hW.perm hpm) hM cw (List.range' 0 wc.length) (va_nd_range' _ _) (range_pick wc wr) hAs hst hroom hdg hf hlen (fun v w' H1 l1 hp hW' => kk v w' H1 l1 hp (hW'.putR (hlen v w' hp)))
theorem Ct.callSB (hx : p.tables.exec = Jvm.exec) (hb : c.code = cc) (hml : c.maxLocals = nL) (hown : s.vm.findClass own = some m.cls) (hts : ∀ w ∈ wsA, w.before args s = true) (hK : KX G s) (hA : ∀ q, s.heap.size ≤ q → A q) (hsz : ls.size = nL) (hW : Wd G A s.heap ws H locs) (hpm : (wc ++ wr).Perm ws)
    (hM : Ct l G y bc mL ret rm As wc mc ms post) (cw : CallB R s args own index y bc mL ret (Cond.code y bc mL ret :: wsA) rm mc ms n ∧ (Cond.static y).before args s = true)
    (hAs : As.length = n) (hst : st0 = As.reverse ++ rest) (hroom : (rest.map fun v => v.category).sum ≤ 8) (hdg : decode cc pc = .ok (.invokestatic index, 3)) (hf : cells + mc ≤ R.cells ∧ slots + ms ≤ R.slots) (hlen : ∀ v w', post v w' → wc.length ≤ w'.length)
    (kk : ∀ (v : Option Value) (w' : va_W) (H1 : Heap) (locs1 : List Loc), post v w' → Wd G A s.heap (wr ++ w') H1 locs1 → W p l e R s m args below meth c H1 locs1 (cells + mc) (slots + ms) Q (F0 m (pc + 3) ls (v.toList ++ rest))) : W p l e R s m args below meth c H locs cells slots Q (F0 m pc ls st0) :=
  Ct.callS hx hb hml hown hts hK hA hsz (hW.perm hpm) hM cw (List.range' 0 wc.length) (va_nd_range' _ _) (range_pick wc wr) hAs hst hroom hdg hf hlen (fun v w' H1 l1 hp hW' => kk v w' H1 l1 hp (hW'.putR (hlen v w' hp)))
end CB
