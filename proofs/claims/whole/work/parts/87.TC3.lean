/-! what run asks first; inputs dealt -/
def sdS (fs : Nat → Int32) : Int32 := if fs 0 = 0 then 0 else if fs 1 = 0 then 0 else if fs 2 = 0 then 0 else 1
abbrev nmB (nm : Int32) (j : Nat) : Prop := ((nm.toUInt32 >>> ((nI j).toUInt32 &&& Int32.toUInt32 31)).toInt32) &&& 1 = 1
def nmG (nm : Int32) (fs : Nat → Int32) : Nat → Nat → Int32
  | 0, _ => 1
  | u + 1, j => if nmB nm j then (if fs (nI j).toNatClampNeg = 0 then 0 else nmG nm fs u (j + 1)) else nmG nm fs u (j + 1)
theorem nmG_s {nm : Int32} {fs : Nat → Int32} {u j : Nat} (hu : 0 < u) : nmG nm fs u j = if nmB nm j then (if fs (nI j).toNatClampNeg = 0 then 0 else nmG nm fs (u - 1) (j + 1)) else nmG nm fs (u - 1) (j + 1) := by
  obtain ⟨v, rfl⟩ : ∃ v, u = v + 1 := ⟨u - 1, by omega⟩
  rfl
def gDl (Y : SyT) (x : Nat) (t : Int32 × Int32 × Int32) : SyT := (fun j => if j = x then t else Y.1 j, Y.2)
theorem vw_dl0 (Y : SyT) (x : Nat) (t : Int32 × Int32 × Int32) : (upd (vwC 0 Y).1 x t.1, upd (vwC 0 Y).2.1 x t.2.1, (vwC 0 Y).2.2) = vwC 0 (gDl Y x t) := by
  obtain ⟨g, ⟨L, R, P, N, B⟩, ⟨W, M, Q, cs, cr⟩, ct, op, oc⟩ := Y
  have e1 : upd (gO 0 g) x t.1 = gO 0 (fun j => if j = x then t else g j) := by
    funext j
    show (if j = x then t.1 else (g j).1) = (if j = x then t else g j).1
    split <;> rfl
  have e2 : upd (gN 0 g) x t.2.1 = gN 0 (fun j => if j = x then t else g j) := by
    funext j
    show (if j = x then t.2.1 else (g j).2.1) = (if j = x then t else g j).2.1
    split <;> rfl
  show (upd (gO 0 g) x t.1, upd (gN 0 g) x t.2.1, _) = (gO 0 (fun j => if j = x then t else g j), gN 0 (fun j => if j = x then t else g j), _)
  rw [e1, e2]
  rfl
theorem vw_dl1 (Y : SyT) (x : Nat) (t : Int32 × Int32 × Int32) : (upd (vwC 1 Y).1 x t.2.1, upd (vwC 1 Y).2.1 x t.2.2, (vwC 1 Y).2.2) = vwC 1 (gDl Y x t) := by
  obtain ⟨g, ⟨L, R, P, N, B⟩, ⟨W, M, Q, cs, cr⟩, ct, op, oc⟩ := Y
  have e1 : upd (gO 1 g) x t.2.1 = gO 1 (fun j => if j = x then t else g j) := by
    funext j
    show (if j = x then t.2.1 else (g j).2.1) = (if j = x then t else g j).2.1
    split <;> rfl
  have e2 : upd (gN 1 g) x t.2.2 = gN 1 (fun j => if j = x then t else g j) := by
    funext j
    show (if j = x then t.2.2 else (g j).2.2) = (if j = x then t else g j).2.2
    split <;> rfl
  show (upd (gO 1 g) x t.2.1, upd (gN 1 g) x t.2.2, _) = (gO 1 (fun j => if j = x then t else g j), gN 1 (fun j => if j = x then t else g j), _)
  rw [e1, e2]
  rfl
theorem vw_dl2 (Y : SyT) (x : Nat) (t : Int32 × Int32 × Int32) : (upd (vwC 2 Y).1 x t.2.2, upd (vwC 2 Y).2.1 x t.1, (vwC 2 Y).2.2) = vwC 2 (gDl Y x t) := by
  obtain ⟨g, ⟨L, R, P, N, B⟩, ⟨W, M, Q, cs, cr⟩, ct, op, oc⟩ := Y
  have e1 : upd (gO 2 g) x t.2.2 = gO 2 (fun j => if j = x then t else g j) := by
    funext j
    show (if j = x then t.2.2 else (g j).2.2) = (if j = x then t else g j).2.2
    split <;> rfl
  have e2 : upd (gN 2 g) x t.1 = gN 2 (fun j => if j = x then t else g j) := by
    funext j
    show (if j = x then t.1 else (g j).1) = (if j = x then t else g j).1
    split <;> rfl
  show (upd (gO 2 g) x t.2.2, upd (gN 2 g) x t.1, _) = (gO 2 (fun j => if j = x then t else g j), gN 2 (fun j => if j = x then t else g j), _)
  rw [e1, e2]
  rfl
def pt0 (k : Int64) (rn : Int32) (j : Nat) : Int32 := (o_Pads_pad_r k rn (1073741824 + (nI j))).toInt32
def dlT (fk : Nat → Int64) (fi : Nat → Int32) (rn : Int32) (j : Nat) : Int32 × Int32 × Int32 := (pt0 (fk 0) rn j, pt0 (fk 1) rn j, ((fi (nI j).toNatClampNeg) - pt0 (fk 0) rn j) - pt0 (fk 1) rn j)
def dlG (nm : Int32) (fk : Nat → Int64) (fi : Nat → Int32) (rn : Int32) : Nat → Nat → SyT → SyT
  | 0, _, Y => Y
  | u + 1, j, Y => if nmB nm j then dlG nm fk fi rn u (j + 1) (gDl Y (26 + nI j).toNatClampNeg (dlT fk fi rn j)) else dlG nm fk fi rn u (j + 1) Y
theorem dlG_s {nm : Int32} {fk : Nat → Int64} {fi : Nat → Int32} {rn : Int32} {u j : Nat} {Y : SyT} (hu : 0 < u) : dlG nm fk fi rn u j Y = if nmB nm j then dlG nm fk fi rn (u - 1) (j + 1) (gDl Y (26 + nI j).toNatClampNeg (dlT fk fi rn j)) else dlG nm fk fi rn (u - 1) (j + 1) Y := by
  obtain ⟨v, rfl⟩ : ∃ v, u = v + 1 := ⟨u - 1, by omega⟩
  rfl

abbrev rm_TC_seedsSet : Room := { frames := 0, cells := 0, slots := 0, locals := 0 }
set_option maxHeartbeats 4000000 in
set_option maxRecDepth 100000 in
theorem c_TC_seedsSet (l : Launch) (G : Gt) (h0 : Nat) (tx : Nat) (rd : Nat) (sc : Nat) (sth : Int32) (wa : Int32) (ip : Nat) (is_ : Nat) (ky : Nat) (ks : Nat) (of_ : Nat) (ou : Nat) (oc : Int32) (rn : Int32) (ln : Int32) (fs : Nat → Int32) : Ct l G y_TC_seedsSet b_TC_seedsSet 2 (some .boolean) rm_TC_seedsSet [.ref h0] [(h0, .inr (0, [.ref tx, .int ln, .ref rd, .ref sc, .int sth, .int wa, .ref ip, .ref is_, .ref ky, .ref ks, .ref of_, .ref ou, .int oc, .int rn])), (ks, .inl (G.2 3, 3, .inl fs))] 0 0 (fun v w' => v = some (.int (sdS fs)) ∧ w' = [(h0, .inr (0, [.ref tx, .int ln, .ref rd, .ref sc, .int sth, .int wa, .ref ip, .ref is_, .ref ky, .ref ks, .ref of_, .ref ou, .int oc, .int rn])), (ks, .inl (G.2 3, 3, .inl fs))]) := by
  refine Ct.of (by decide) (Nat.le_of_ble_eq_true rfl) (fun p e s m args below meth c A ls H locs hx hb hml hr hnl hown hts hnm hK hA hl hW => ?_)
  have hl : lv_has ls 2 [(0, .ref h0)] := hl
  refine lv_iconst (v := 0) hx hb d_TC_seedsSet_0 (by decide) ?_
  refine lv_istore_n (lv' := [(1, .int 0), (0, .ref h0)]) hx hb d_TC_seedsSet_1 rfl hl (by decide) rfl (fun ls hl => ?_)
  refine lv_iload_n hx hb d_TC_seedsSet_2 rfl (lv_at hl 0 rfl) ?_
  refine lv_iconst (v := 3) hx hb d_TC_seedsSet_3 (by decide) ?_
  refine lv_icmp_ge (tgt := 24) hx hb d_TC_seedsSet_4 rfl (fun hz => absurd hz (by decide)) (fun _ => ?_)
  refine lv_aload_n hx hb d_TC_seedsSet_7 rfl (lv_at hl 1 rfl) ?_
  refine Wd.get hx hb hts hown hK hW 0 9 in_TC w_fl_TC_43 (by decide) d_TC_seedsSet_8 rfl rfl rfl ?_
  refine lv_iload_n hx hb d_TC_seedsSet_11 rfl (lv_at hl 0 rfl) ?_
  refine Wd.zald hx hb hK hW 1 d_TC_seedsSet_12 rfl (by unfold vp_in; decide) ?_
  refine lv_if_ne (tgt := 18) hx hb d_TC_seedsSet_13 rfl (fun ht1 => ?_) (fun hf2 => ?_)
  · refine lv_iinc (k := 0) (v := 1) (lv' := [(1, .int 1), (0, .ref h0)]) hx hb d_TC_seedsSet_18 hl rfl (by decide) (by decide) rfl (fun ls hl => ?_)
    refine lv_goto (tgt := 2) hx hb d_TC_seedsSet_21 rfl ?_
    refine lv_iload_n hx hb d_TC_seedsSet_2 rfl (lv_at hl 0 rfl) ?_
    refine lv_iconst (v := 3) hx hb d_TC_seedsSet_3 (by decide) ?_
    refine lv_icmp_ge (tgt := 24) hx hb d_TC_seedsSet_4 rfl (fun hz => absurd hz (by decide)) (fun _ => ?_)
    refine lv_aload_n hx hb d_TC_seedsSet_7 rfl (lv_at hl 1 rfl) ?_
    refine Wd.get hx hb hts hown hK hW 0 9 in_TC w_fl_TC_43 (by decide) d_TC_seedsSet_8 rfl rfl rfl ?_
    refine lv_iload_n hx hb d_TC_seedsSet_11 rfl (lv_at hl 0 rfl) ?_
    refine Wd.zald hx hb hK hW 1 d_TC_seedsSet_12 rfl (by unfold vp_in; decide) ?_
    refine lv_if_ne (tgt := 18) hx hb d_TC_seedsSet_13 rfl (fun ht3 => ?_) (fun hf4 => ?_)
    · refine lv_iinc (k := 0) (v := 2) (lv' := [(1, .int 2), (0, .ref h0)]) hx hb d_TC_seedsSet_18 hl rfl (by decide) (by decide) rfl (fun ls hl => ?_)
      refine lv_goto (tgt := 2) hx hb d_TC_seedsSet_21 rfl ?_
      refine lv_iload_n hx hb d_TC_seedsSet_2 rfl (lv_at hl 0 rfl) ?_
      refine lv_iconst (v := 3) hx hb d_TC_seedsSet_3 (by decide) ?_
      refine lv_icmp_ge (tgt := 24) hx hb d_TC_seedsSet_4 rfl (fun hz => absurd hz (by decide)) (fun _ => ?_)
      refine lv_aload_n hx hb d_TC_seedsSet_7 rfl (lv_at hl 1 rfl) ?_
      refine Wd.get hx hb hts hown hK hW 0 9 in_TC w_fl_TC_43 (by decide) d_TC_seedsSet_8 rfl rfl rfl ?_
      refine lv_iload_n hx hb d_TC_seedsSet_11 rfl (lv_at hl 0 rfl) ?_
      refine Wd.zald hx hb hK hW 1 d_TC_seedsSet_12 rfl (by unfold vp_in; decide) ?_
      refine lv_if_ne (tgt := 18) hx hb d_TC_seedsSet_13 rfl (fun ht5 => ?_) (fun hf6 => ?_)
      · refine lv_iinc (k := 0) (v := 3) (lv' := [(1, .int 3), (0, .ref h0)]) hx hb d_TC_seedsSet_18 hl rfl (by decide) (by decide) rfl (fun ls hl => ?_)
        refine lv_goto (tgt := 2) hx hb d_TC_seedsSet_21 rfl ?_
        refine lv_iload_n hx hb d_TC_seedsSet_2 rfl (lv_at hl 0 rfl) ?_
        refine lv_iconst (v := 3) hx hb d_TC_seedsSet_3 (by decide) ?_
        refine lv_icmp_ge (tgt := 24) hx hb d_TC_seedsSet_4 rfl (fun _ => ?_) (fun hz => absurd (by decide) hz)
        refine lv_iconst (v := 1) hx hb d_TC_seedsSet_24 (by decide) ?_
        exact Ct.zret hx hb hr hnl hW (by decide) (by decide) d_TC_seedsSet_25 (by decide) ⟨by unfold sdS; rw [if_neg (show ¬ fs 0 = 0 from ht1), if_neg (show ¬ fs 1 = 0 from ht3), if_neg (show ¬ fs 2 = 0 from ht5)], rfl⟩
      · refine lv_iconst (v := 0) hx hb d_TC_seedsSet_16 (by decide) ?_
        exact Ct.zret hx hb hr hnl hW (by decide) (by decide) d_TC_seedsSet_17 (by decide) ⟨by unfold sdS; rw [if_neg (show ¬ fs 0 = 0 from ht1), if_neg (show ¬ fs 1 = 0 from ht3), if_pos (show fs 2 = 0 from hf6)], rfl⟩
    · refine lv_iconst (v := 0) hx hb d_TC_seedsSet_16 (by decide) ?_
      exact Ct.zret hx hb hr hnl hW (by decide) (by decide) d_TC_seedsSet_17 (by decide) ⟨by unfold sdS; rw [if_neg (show ¬ fs 0 = 0 from ht1), if_pos (show fs 1 = 0 from hf4)], rfl⟩
  · refine lv_iconst (v := 0) hx hb d_TC_seedsSet_16 (by decide) ?_
    exact Ct.zret hx hb hr hnl hW (by decide) (by decide) d_TC_seedsSet_17 (by decide) ⟨by unfold sdS; rw [if_pos (show fs 0 = 0 from hf2)], rfl⟩

abbrev rm_TC_namedInputsSet : Room := { frames := 1, cells := 0, slots := 0, locals := 21 }
set_option maxHeartbeats 4000000 in
set_option maxRecDepth 100000 in
theorem c_TC_namedInputsSet (l : Launch) (G : Gt) (h0 : Nat) (tx : Nat) (rd : Nat) (sc : Nat) (sth : Int32) (wa : Int32) (ip : Nat) (is_ : Nat) (ky : Nat) (ks : Nat) (of_ : Nat) (ou : Nat) (oc : Int32) (rn : Int32) (ln : Int32) (sck : Nat) (sct : Nat) (scf : Nat) (scs : Nat) (sch : Nat) (ct : Int32) (cp : Int32) (on : Int32) (nm : Int32) (fs : Nat → Int32) : Ct l G y_TC_namedInputsSet b_TC_namedInputsSet 2 (some .boolean) rm_TC_namedInputsSet [.ref h0] [(h0, .inr (0, [.ref tx, .int ln, .ref rd, .ref sc, .int sth, .int wa, .ref ip, .ref is_, .ref ky, .ref ks, .ref of_, .ref ou, .int oc, .int rn])), (sc, .inr (10, [.ref sck, .ref sct, .ref scf, .ref scs, .ref sch, .int ct, .int cp, .int on, .int nm])), (is_, .inl (G.2 3, 8, .inl fs))] 0 0 (fun v w' => v = some (.int (nmG nm fs 8 0)) ∧ w' = [(h0, .inr (0, [.ref tx, .int ln, .ref rd, .ref sc, .int sth, .int wa, .ref ip, .ref is_, .ref ky, .ref ks, .ref of_, .ref ou, .int oc, .int rn])), (sc, .inr (10, [.ref sck, .ref sct, .ref scf, .ref scs, .ref sch, .int ct, .int cp, .int on, .int nm])), (is_, .inl (G.2 3, 8, .inl fs))]) := by
  refine Ct.of (by decide) (Nat.le_of_ble_eq_true rfl) (fun p e s m args below meth c A ls H locs hx hb hml hr hnl hown hts hnm hK hA hl hW => ?_)
  have hl : lv_has ls 2 [(0, .ref h0)] := hl
  refine lv_iconst (v := 0) hx hb d_TC_namedInputsSet_0 (by decide) ?_
  refine lv_istore_n (lv' := [(1, .int 0), (0, .ref h0)]) hx hb d_TC_namedInputsSet_1 rfl hl (by decide) rfl (fun ls hl => ?_)
  have loop2 : ∀ (u : Nat) (j : Nat) (ls : Array Slot) (H : Heap) (locs : List Loc), j ≤ 8 → nmG nm fs (8 - j) j = nmG nm fs 8 0 → (8 - j) < u → lv_has ls 2 [(0, .ref h0), (1, .int (nI j))] → Wd G A s.heap [(h0, .inr (0, [.ref tx, .int ln, .ref rd, .ref sc, .int sth, .int wa, .ref ip, .ref is_, .ref ky, .ref ks, .ref of_, .ref ou, .int oc, .int rn])), (sc, .inr (10, [.ref sck, .ref sct, .ref scf, .ref scs, .ref sch, .int ct, .int cp, .int on, .int nm])), (is_, .inl (G.2 3, 8, .inl fs))] H locs → W p l e rm_TC_namedInputsSet s m args below meth c H locs 0 0 (MQ below (Qcc G (fun v w' => v = some (.int (nmG nm fs 8 0)) ∧ w' = [(h0, .inr (0, [.ref tx, .int ln, .ref rd, .ref sc, .int sth, .int wa, .ref ip, .ref is_, .ref ky, .ref ks, .ref of_, .ref ou, .int oc, .int rn])), (sc, .inr (10, [.ref sck, .ref sct, .ref scf, .ref scs, .ref sch, .int ct, .int cp, .int on, .int nm])), (is_, .inl (G.2 3, 8, .inl fs))]) A) args s 0 0 A) (F0 m 2 ls []) := by
    intro u
    induction u with
    | zero => intro j ls H locs hj hg hu; exact absurd hu (Nat.not_lt_zero _)
    | succ u ih2 =>
      intro j ls H locs hj hg hu2 hl hW
      refine lv_iload_n hx hb d_TC_namedInputsSet_2 rfl (lv_at hl 1 rfl) ?_
      refine lv_bipush (v := 8) hx hb d_TC_namedInputsSet_3 (by decide) ?_
      refine lv_icmp_ge (tgt := 36) hx hb d_TC_namedInputsSet_5 rfl (fun ht1 => ?_) (fun hf2 => ?_)
      · have hj8 : j = 8 := by have := (nI_leI (a := 8) (b := j) (by omega) (by omega)).mp ht1; omega
        refine lv_iconst (v := 1) hx hb d_TC_namedInputsSet_36 (by decide) ?_
        exact Ct.zret hx hb hr hnl hW (by decide) (by decide) d_TC_namedInputsSet_37 (by decide) (by subst hj8; rw [← hg]; exact ⟨rfl, rfl⟩)
      · have hj8 : j < 8 := by apply Nat.lt_of_not_le; intro q; exact hf2 (nI_le (a := 8) q (by omega))
        refine lv_aload_n hx hb d_TC_namedInputsSet_8 rfl (lv_at hl 0 rfl) ?_
        refine Wd.get hx hb hts hown hK hW 0 3 in_TC w_fl_TC_23 (by decide) d_TC_namedInputsSet_9 rfl rfl rfl ?_
        refine lv_iload_n hx hb d_TC_namedInputsSet_12 rfl (lv_at hl 1 rfl) ?_
        rcases Classical.em ((((nm.toUInt32 >>> ((nI j).toUInt32 &&& Int32.toUInt32 31)).toInt32) &&& 1) = 1) with ht3 | hf4
        · refine Ct.callV (As := [.int (nI j)]) (rest := []) hx hb hml hown hts hK hA hl.1 hW (c_Script_names_1 l G sc sck sct scf scs sch ct cp on nm (nI j) ht3) (cwV 1 hts (good_V w_ml_TC_137 w_im_Script_names w_se_Script_names w_ini_Script w_code_Script_names) rfl rfl rfl yd_Script_names ⟨by decide, by decide⟩) [1] (by decide) rfl (ci := 10) (r := vr_Script) rfl rfl rfl rfl rfl (Nat.le_of_ble_eq_true rfl) d_TC_namedInputsSet_13 ⟨by decide, by decide⟩ (fun v w' hp => by obtain ⟨-, rfl⟩ := hp; exact Nat.le_of_ble_eq_true rfl) (fun v w' H locs hp hW => ?_)
          obtain ⟨rfl, rfl⟩ := hp
          have hW : Wd G A s.heap [(h0, .inr (0, [.ref tx, .int ln, .ref rd, .ref sc, .int sth, .int wa, .ref ip, .ref is_, .ref ky, .ref ks, .ref of_, .ref ou, .int oc, .int rn])), (sc, .inr (10, [.ref sck, .ref sct, .ref scf, .ref scs, .ref sch, .int ct, .int cp, .int on, .int nm])), (is_, .inl (G.2 3, 8, .inl fs))] H locs := hW
          refine W.eq (g2 := F0 m 16 ls [.int 1]) rfl ?_
          refine lv_if_eq (tgt := 30) hx hb d_TC_namedInputsSet_16 rfl (fun hz => absurd hz (by decide)) (fun _ => ?_)
          refine lv_aload_n hx hb d_TC_namedInputsSet_19 rfl (lv_at hl 0 rfl) ?_
          refine Wd.get hx hb hts hown hK hW 0 7 in_TC w_fl_TC_35 (by decide) d_TC_namedInputsSet_20 rfl rfl rfl ?_
          refine lv_iload_n hx hb d_TC_namedInputsSet_23 rfl (lv_at hl 1 rfl) ?_
          refine Wd.zald hx hb hK hW 2 d_TC_namedInputsSet_24 rfl (vp_in_nI hj8 (by decide)) ?_
          refine lv_if_ne (tgt := 30) hx hb d_TC_namedInputsSet_25 rfl (fun ht5 => ?_) (fun hf6 => ?_)
          · refine lv_iinc (k := 1) (v := nI (j + 1)) (lv' := [(1, .int (nI (j + 1))), (0, .ref h0)]) hx hb d_TC_namedInputsSet_30 hl rfl (nI_succ j).symm (by decide) rfl (fun ls hl => ?_)
            refine lv_goto (tgt := 2) hx hb d_TC_namedInputsSet_33 rfl ?_
            exact ih2 (j + 1) ls H locs (by omega) (by rw [nmG_s (by omega), if_pos (show nmB nm j from ht3), if_neg (show ¬ fs (nI j).toNatClampNeg = 0 from ht5)] at hg; rw [show 8 - (j + 1) = 8 - j - 1 by omega]; exact hg) (by omega) (lv_sub hl [1, 0] rfl) hW
          · refine lv_iconst (v := 0) hx hb d_TC_namedInputsSet_28 (by decide) ?_
            exact Ct.zret hx hb hr hnl hW (by decide) (by decide) d_TC_namedInputsSet_29 (by decide) (by rw [nmG_s (by omega), if_pos (show nmB nm j from ht3), if_pos (show fs (nI j).toNatClampNeg = 0 from hf6)] at hg; rw [← hg]; exact ⟨rfl, rfl⟩)
        · refine Ct.callV (As := [.int (nI j)]) (rest := []) hx hb hml hown hts hK hA hl.1 hW (c_Script_names_0 l G sc sck sct scf scs sch ct cp on nm (nI j) hf4) (cwV 1 hts (good_V w_ml_TC_137 w_im_Script_names w_se_Script_names w_ini_Script w_code_Script_names) rfl rfl rfl yd_Script_names ⟨by decide, by decide⟩) [1] (by decide) rfl (ci := 10) (r := vr_Script) rfl rfl rfl rfl rfl (Nat.le_of_ble_eq_true rfl) d_TC_namedInputsSet_13 ⟨by decide, by decide⟩ (fun v w' hp => by obtain ⟨-, rfl⟩ := hp; exact Nat.le_of_ble_eq_true rfl) (fun v w' H locs hp hW => ?_)
          obtain ⟨rfl, rfl⟩ := hp
          have hW : Wd G A s.heap [(h0, .inr (0, [.ref tx, .int ln, .ref rd, .ref sc, .int sth, .int wa, .ref ip, .ref is_, .ref ky, .ref ks, .ref of_, .ref ou, .int oc, .int rn])), (sc, .inr (10, [.ref sck, .ref sct, .ref scf, .ref scs, .ref sch, .int ct, .int cp, .int on, .int nm])), (is_, .inl (G.2 3, 8, .inl fs))] H locs := hW
          refine W.eq (g2 := F0 m 16 ls [.int 0]) rfl ?_
          refine lv_if_eq (tgt := 30) hx hb d_TC_namedInputsSet_16 rfl (fun _ => ?_) (fun hz => absurd (by decide) hz)
          refine lv_iinc (k := 1) (v := nI (j + 1)) (lv' := [(1, .int (nI (j + 1))), (0, .ref h0)]) hx hb d_TC_namedInputsSet_30 hl rfl (nI_succ j).symm (by decide) rfl (fun ls hl => ?_)
          refine lv_goto (tgt := 2) hx hb d_TC_namedInputsSet_33 rfl ?_
          exact ih2 (j + 1) ls H locs (by omega) (by rw [nmG_s (by omega), if_neg (show ¬ nmB nm j from hf4)] at hg; rw [show 8 - (j + 1) = 8 - j - 1 by omega]; exact hg) (by omega) (lv_sub hl [1, 0] rfl) hW
  exact loop2 (_ + 1) 0 ls H locs (Nat.zero_le _) rfl (Nat.lt_succ_self _) (lv_sub hl [1, 0] rfl) hW

