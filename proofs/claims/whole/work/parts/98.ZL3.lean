/-! the law's loop -/
theorem lw_hi {Lx j : Nat} (hLx : Lx ≤ 2048) (hj : 4 * j ≤ Lx) (h : ¬ nI Lx - 4 < nI (4 * j)) : 4 * j + 4 ≤ Lx := by
  apply Nat.le_of_not_lt
  intro q
  apply h
  by_cases h4 : 4 ≤ Lx
  · have e : nI Lx - 4 = nI (Lx - 4) := by
      have e2 : nI Lx = nI (4 + (Lx - 4)) := by congr 1; omega
      rw [e2]
      exact nI_sb 4 (Lx - 4)
    rw [e]
    exact nI_lt (by omega) (by omega)
  · have hs : ∀ x : Nat, x < 4 → nI x - 4 < 0 := by decide +kernel
    exact Int32.lt_of_lt_of_le (hs Lx (by omega)) (nI_pos' (by omega))
theorem lw_i4 (j : Nat) : nI (4 * (j + 1)) = nI (4 * j) + 4 := (nI_add (4 * j) 4).symm
set_option maxRecDepth 100000 in
set_option maxHeartbeats 8000000 in
theorem law_loop {p : Program} {e : Env} {s : State} {m : MethodId} {below : List Frame} {meth : Method} {c : Code} (l : Launch) {b Lx : Nat} {xs : Nat → Int32} (hfl : l.flags = flags0) (G : Gt) (V : Ev) (A : Nat → Prop) (hx : p.tables.exec = Jvm.exec) (hb : c.code = code) (hr : meth.sig.returnType = ret) (hml : c.maxLocals = 7) (hown : s.vm.findClass "ThreeClerksLaw" = some m.cls) (hnl : meth.locks = false) (hts : ∀ w ∈ wsA, w.before #[Value.ref b] s = true) (hLw : ∀ w ∈ lawW, w.before #[Value.ref b] s = true) (hLw2 : ∀ w ∈ lawW ++ wsA, w.before #[Value.ref b] s = true) (hX : va_X b Lx xs s s.heap) (hbl : b < s.heap.size) (hbA : ¬ A b) (hK : KX G s) (hE : EX V A s s.heap) (hA : ∀ q, s.heap.size ≤ q → A q) (hAr : ∀ q, A q → s.heap.size ≤ q) (hLx : Lx ≤ 2048) {hc hm hq : Nat} : ∀ (u j : Nat) (ls : Array Slot) (ws : va_W) (H : Heap) (locs : List Loc), Lx < 4 * j + 4 * u → 4 * j ≤ Lx → LI G hc hm hq ws → lv_has ls 7 [(4, .int (nI (4 * j))), (3, .ref hq), (2, .ref hm), (1, .ref hc), (0, .ref b)] → Wd G A s.heap ws H locs → W p l e room_1 s m #[Value.ref b] below meth c H locs (200 + j) (10000 + 6 * j) (lw_Z below #[Value.ref b] s) (F0 m 23 ls [])
  | 0, j, ls, ws, H, locs, hu, hj, hI, hl, hW => by omega
  | u + 1, j, ls, ws, H, locs, hu, hj, hI, hl, hW => by
    refine lv_iload hx hb d_Law_law_23 (lv_at hl 0 rfl) ?_
    refine lv_aload_n hx hb d_Law_law_25 rfl (lv_at hl 4 rfl) ?_
    refine va_slen hx hb hX hbl hbA hW.2.2 d_Law_law_26 ?_
    refine lv_iconst (v := 4) hx hb d_Law_law_27 (by decide) ?_
    refine lv_isub hx hb d_Law_law_28 ?_
    refine lv_icmp_gt (tgt := 437) hx hb d_Law_law_29 rfl (fun _ => ?_) (fun hle => ?_)
    · refine lv_iconst (v := 1) hx hb d_Law_law_437 (by decide) ?_
      refine va_forget (fun q hq => hAr _ (hW.2.2.2.2 q hq)) ?_
      refine W.widen (k := 601024) (n := 7293034) (by omega) (by omega) ?_
      exact lw_ret hx hb hr hnl d_Law_law_438
    · have hi : 4 * j + 4 ≤ Lx := lw_hi hLx hj hle
      have hk0 : 200 + j + 0 ≤ room_1.cells ∧ 10000 + 6 * j + 0 ≤ room_1.slots := ⟨by show _ ≤ 601024; omega, by show _ ≤ 7293034; omega⟩
      have hk1 : 200 + j + 1 ≤ room_1.cells ∧ 10000 + 6 * j + 6 ≤ room_1.slots := ⟨by show _ ≤ 601024; omega, by show _ ≤ 7293034; omega⟩
      have kk : ∀ (ls : Array Slot) (ws : va_W) (H : Heap) (locs : List Loc), LI G hc hm hq ws → lv_has ls 7 [(4, .int (nI (4 * j))), (3, .ref hq), (2, .ref hm), (1, .ref hc), (0, .ref b)] → Wd G A s.heap ws H locs → W p l e room_1 s m #[Value.ref b] below meth c H locs (200 + j + 1) (10000 + 6 * j + 6) (lw_Z below #[Value.ref b] s) (F0 m 431 ls []) := by
        intro ls ws H locs hI hl hW
        refine lv_iinc (k := 0) (v := nI (4 * (j + 1))) (lv' := [(4, .int (nI (4 * (j + 1)))), (3, .ref hq), (2, .ref hm), (1, .ref hc), (0, .ref b)]) hx hb d_Law_law_431 hl rfl (lw_i4 j).symm (by decide) rfl (fun ls hl => ?_)
        refine lv_goto (tgt := 23) hx hb d_Law_law_434 rfl ?_
        exact law_loop l hfl G V A hx hb hr hml hown hnl hts hLw hLw2 hX hbl hbA hK hE hA hAr hLx u (j + 1) ls ws H locs (by omega) (by omega) hI hl hW
      refine lv_aload_n hx hb d_Law_law_32 rfl (lv_at hl 4 rfl) ?_
      refine lv_iload hx hb d_Law_law_33 (lv_at hl 0 rfl) ?_
      refine va_sld hx hb hX hbl hbA hW.2.2 (vpI0 hi hLx) d_Law_law_35 ?_
      refine W.eq (g2 := F0 m 36 ls [.int (xs ((nI (4 * j)).toNatClampNeg))]) rfl ?_
      refine lv_bipush (v := 7) hx hb d_Law_law_36 (by decide) ?_
      refine lv_iand hx hb d_Law_law_38 ?_
      by_cases q0 : (xs ((nI (4 * j)).toNatClampNeg)) &&& 7 = 0
      · refine lv_tableIn (tgt := 84) hx hb d_Law_law_39 (by rw [q0]; decide) (by rw [q0]; decide) (by rw [q0]; rfl) rfl ?_
        exact lawc_0 l hfl G V A hx hb hr hml hown hnl hts hLw hLw2 hX hbl hbA hK hE hA hAr hi hLx hk0 hk1 hI hl hW kk
      by_cases q1 : (xs ((nI (4 * j)).toNatClampNeg)) &&& 7 = 1
      · refine lv_tableIn (tgt := 141) hx hb d_Law_law_39 (by rw [q1]; decide) (by rw [q1]; decide) (by rw [q1]; rfl) rfl ?_
        exact lawc_1 l hfl G V A hx hb hr hml hown hnl hts hLw hLw2 hX hbl hbA hK hE hA hAr hi hLx hk0 hk1 hI hl hW kk
      by_cases q2 : (xs ((nI (4 * j)).toNatClampNeg)) &&& 7 = 2
      · refine lv_tableIn (tgt := 154) hx hb d_Law_law_39 (by rw [q2]; decide) (by rw [q2]; decide) (by rw [q2]; rfl) rfl ?_
        exact lawc_2 l hfl G V A hx hb hr hml hown hnl hts hLw hLw2 hX hbl hbA hK hE hA hAr hi hLx hk0 hk1 hI hl hW kk
      by_cases q3 : (xs ((nI (4 * j)).toNatClampNeg)) &&& 7 = 3
      · refine lv_tableIn (tgt := 198) hx hb d_Law_law_39 (by rw [q3]; decide) (by rw [q3]; decide) (by rw [q3]; rfl) rfl ?_
        exact lawc_3 l hfl G V A hx hb hr hml hown hnl hts hLw hLw2 hX hbl hbA hK hE hA hAr hi hLx hk0 hk1 hI hl hW kk
      by_cases q4 : (xs ((nI (4 * j)).toNatClampNeg)) &&& 7 = 4
      · refine lv_tableIn (tgt := 211) hx hb d_Law_law_39 (by rw [q4]; decide) (by rw [q4]; decide) (by rw [q4]; rfl) rfl ?_
        exact lawc_4 l hfl G V A hx hb hr hml hown hnl hts hLw hLw2 hX hbl hbA hK hE hA hAr hi hLx hk0 hk1 hI hl hW kk
      by_cases q5 : (xs ((nI (4 * j)).toNatClampNeg)) &&& 7 = 5
      · refine lv_tableIn (tgt := 259) hx hb d_Law_law_39 (by rw [q5]; decide) (by rw [q5]; decide) (by rw [q5]; rfl) rfl ?_
        exact lawc_5 l hfl G V A hx hb hr hml hown hnl hts hLw hLw2 hX hbl hbA hK hE hA hAr hi hLx hk0 hk1 hI hl hW kk
      by_cases q6 : (xs ((nI (4 * j)).toNatClampNeg)) &&& 7 = 6
      · refine lv_tableIn (tgt := 319) hx hb d_Law_law_39 (by rw [q6]; decide) (by rw [q6]; decide) (by rw [q6]; rfl) rfl ?_
        exact lawc_6 l hfl G V A hx hb hr hml hown hnl hts hLw hLw2 hX hbl hbA hK hE hA hAr hi hLx hk0 hk1 hI hl hW kk
      by_cases q7 : (xs ((nI (4 * j)).toNatClampNeg)) &&& 7 = 7
      · refine lv_tableIn (tgt := 375) hx hb d_Law_law_39 (by rw [q7]; decide) (by rw [q7]; decide) (by rw [q7]; rfl) rfl ?_
        exact lawc_7 l hfl G V A hx hb hr hml hown hnl hts hLw hLw2 hX hbl hbA hK hE hA hAr hi hLx hk0 hk1 hI hl hW kk
      refine lv_tableOut (tgt := 431) hx hb d_Law_law_39 (by have n0 := lv_neT q0 (a := 0) (by decide); have n1 := lv_neT q1 (a := 1) (by decide); have n2 := lv_neT q2 (a := 2) (by decide); have n3 := lv_neT q3 (a := 3) (by decide); have n4 := lv_neT q4 (a := 4) (by decide); have n5 := lv_neT q5 (a := 5) (by decide); have n6 := lv_neT q6 (a := 6) (by decide); have n7 := lv_neT q7 (a := 7) (by decide); omega) rfl ?_
      refine W.widen (k := 200 + j + 1) (n := 10000 + 6 * j + 6) (Nat.le_add_right _ _) (Nat.le_add_right _ _) ?_
      exact kk ls ws H locs hI hl hW
