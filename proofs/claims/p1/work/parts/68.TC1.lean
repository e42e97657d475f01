/-! what write does -/
def wcd (ch : Int64) (j : Nat) : Int32 := (((ch.toUInt64 >>> ((8 * (nI j)).toInt64.toUInt64 &&& Int64.toUInt64 63)).toInt64).toInt32) &&& 255
def wrG (ch : Int64) (L : Nat) : Nat → Nat → Nat → (Nat → Int32) → Int32 × Nat × (Nat → Int32)
  | 0, _, a, f => (1, a, f)
  | n + 1, j, a, f => if wcd ch j = 0 then wrG ch L n (j + 1) a f else if wcd ch j < 32 then (0, a, f) else if 126 < wcd ch j then (0, a, f) else if nI L + nI a < 120 then wrG ch L n (j + 1) (a + 1) (upd f (nI L + nI a).toNatClampNeg (vp_nar .char ((wcd ch j).toUInt32 % 65536).toInt32)) else (0, a, f)
def wrR (ch : Int64) (L : Nat) (f : Nat → Int32) : Int32 × Nat × (Nat → Int32) := wrG ch L 8 0 0 f
def wrN (L : Nat) (r : Int32 × Nat × (Nat → Int32)) : Int32 := if r.1 = 0 then nI L else nI L + nI r.2.1
theorem wrG_s {ch : Int64} {L n j a : Nat} {f : Nat → Int32} (hn : 0 < n) : wrG ch L n j a f = if wcd ch j = 0 then wrG ch L (n - 1) (j + 1) a f else if wcd ch j < 32 then (0, a, f) else if 126 < wcd ch j then (0, a, f) else if nI L + nI a < 120 then wrG ch L (n - 1) (j + 1) (a + 1) (upd f (nI L + nI a).toNatClampNeg (vp_nar .char ((wcd ch j).toUInt32 % 65536).toInt32)) else (0, a, f) := by
  obtain ⟨m, rfl⟩ : ∃ m, n = m + 1 := ⟨n - 1, by omega⟩
  rfl

abbrev rm_TC_write : Room := { frames := 0, cells := 0, slots := 0, locals := 0 }
set_option maxHeartbeats 4000000 in
set_option maxRecDepth 100000 in
theorem c_TC_write (l : Launch) (G : Gt) (h0 : Nat) (tx : Nat) (rd : Nat) (sc : Nat) (sth : Int32) (wa : Int32) (ip : Nat) (is_ : Nat) (ky : Nat) (ks : Nat) (of_ : Nat) (ou : Nat) (oc : Int32) (rn : Int32) (L : Nat) (f0 : Nat → Int32) (ch : Int64) (hL : L ≤ 120) : Ct l G y_TC_write b_TC_write 6 (some .boolean) rm_TC_write [.ref h0, .long ch] [(h0, .inr (0, [.ref tx, .int (nI L), .ref rd, .ref sc, .int sth, .int wa, .ref ip, .ref is_, .ref ky, .ref ks, .ref of_, .ref ou, .int oc, .int rn])), (tx, .inl (G.2 2, 120, .inl f0))] 0 0 (fun v w' => v = some (.int ((wrR ch L f0).1)) ∧ w' = [(h0, .inr (0, [.ref tx, .int (wrN L (wrR ch L f0)), .ref rd, .ref sc, .int sth, .int wa, .ref ip, .ref is_, .ref ky, .ref ks, .ref of_, .ref ou, .int oc, .int rn])), (tx, .inl (G.2 2, 120, .inl ((wrR ch L f0).2.2)))]) := by
  refine Ct.of (by decide) (Nat.le_of_ble_eq_true rfl) (fun p e s m args below meth c A ls H locs hx hb hml hr hnl hown hts hnm hK hA hl hW => ?_)
  have hl : lv_has ls 6 [(0, .ref h0), (1, .long ch)] := hl
  refine lv_iconst (v := 0) hx hb d_TC_write_0 (by decide) ?_
  refine lv_istore_n (lv' := [(3, .int 0), (0, .ref h0), (1, .long ch)]) hx hb d_TC_write_1 rfl hl (by decide) rfl (fun ls hl => ?_)
  refine lv_iconst (v := 0) hx hb d_TC_write_2 (by decide) ?_
  refine lv_istore (lv' := [(4, .int 0), (3, .int 0), (0, .ref h0), (1, .long ch)]) hx hb d_TC_write_3 hl (by decide) rfl (fun ls hl => ?_)
  have loop5 : ∀ (u : Nat) (j : Nat) (a : Nat) (f : Nat → Int32) (ls : Array Slot) (H : Heap) (locs : List Loc), j ≤ 8 → a ≤ j → wrG ch L (8 - j) j a f = wrR ch L f0 → (8 - j) < u → lv_has ls 6 [(0, .ref h0), (1, .long ch), (3, .int (nI a)), (4, .int (nI j))] → Wd G A s.heap [(h0, .inr (0, [.ref tx, .int (nI L), .ref rd, .ref sc, .int sth, .int wa, .ref ip, .ref is_, .ref ky, .ref ks, .ref of_, .ref ou, .int oc, .int rn])), (tx, .inl (G.2 2, 120, .inl f))] H locs → W p l e rm_TC_write s m args below meth c H locs 0 0 (MQ below (Qcc G (fun v w' => v = some (.int ((wrR ch L f0).1)) ∧ w' = [(h0, .inr (0, [.ref tx, .int (wrN L (wrR ch L f0)), .ref rd, .ref sc, .int sth, .int wa, .ref ip, .ref is_, .ref ky, .ref ks, .ref of_, .ref ou, .int oc, .int rn])), (tx, .inl (G.2 2, 120, .inl ((wrR ch L f0).2.2)))]) A) args s 0 0 A) (F0 m 5 ls []) := by
    intro u
    induction u with
    | zero => intro j a f ls H locs hj ha hg hu; exact absurd hu (Nat.not_lt_zero _)
    | succ u ih5 =>
      intro j a f ls H locs hj ha hg hu5 hl hW
      refine lv_iload hx hb d_TC_write_5 (lv_at hl 3 rfl) ?_
      refine lv_bipush (v := 8) hx hb d_TC_write_7 (by decide) ?_
      refine lv_icmp_ge (tgt := 84) hx hb d_TC_write_9 rfl (fun ht1 => ?_) (fun hf2 => ?_)
      · have hj8 : j = 8 := by have := (nI_leI (a := 8) (b := j) (by omega) (by omega)).mp ht1; omega
        refine lv_aload_n hx hb d_TC_write_84 rfl (lv_at hl 0 rfl) ?_
        refine lv_dup hx hb d_TC_write_85 rfl ?_
        refine Wd.get hx hb hts hown hK hW 0 1 in_TC w_fl_TC_56 (by decide) d_TC_write_86 rfl rfl rfl ?_
        refine lv_iload_n hx hb d_TC_write_89 rfl (lv_at hl 2 rfl) ?_
        refine lv_iadd hx hb d_TC_write_90 ?_
        refine Wd.put hx hb hts hown hK hW 0 1 in_TC t_TC_ok n_TC w_fl_TC_56 (by decide) d_TC_write_91 rfl rfl rfl rfl rfl (Nat.le_of_ble_eq_true rfl) (fun H locs hW => ?_)
        have hW : Wd G A s.heap [(h0, .inr (0, [.ref tx, .int ((nI L) + (nI a)), .ref rd, .ref sc, .int sth, .int wa, .ref ip, .ref is_, .ref ky, .ref ks, .ref of_, .ref ou, .int oc, .int rn])), (tx, .inl (G.2 2, 120, .inl f))] H locs := hW
        refine lv_iconst (v := 1) hx hb d_TC_write_94 (by decide) ?_
        exact Ct.zret hx hb hr hnl hW (by decide) (by decide) d_TC_write_95 (by decide) (by
          subst hj8
          have e : wrR ch L f0 = (1, a, f) := hg.symm
          rw [e]
          exact ⟨rfl, rfl⟩)
      · have hj8 : j < 8 := by apply Nat.lt_of_not_le; intro q; exact hf2 (nI_le (a := 8) q (by omega))
        refine lv_lload_n hx hb d_TC_write_12 rfl (lv_at hl 1 rfl) ?_
        refine lv_bipush (v := 8) hx hb d_TC_write_13 (by decide) ?_
        refine lv_iload hx hb d_TC_write_15 (lv_at hl 3 rfl) ?_
        refine lv_imul hx hb d_TC_write_17 ?_
        refine lv_lushr (v := (ch.toUInt64 >>> ((8 * (nI j)).toInt64.toUInt64 &&& Int64.toUInt64 63)).toInt64) hx hb d_TC_write_18 rfl ?_
        refine lv_l2i (v := ((ch.toUInt64 >>> ((8 * (nI j)).toInt64.toUInt64 &&& Int64.toUInt64 63)).toInt64).toInt32) hx hb d_TC_write_19 rfl ?_
        refine lv_sipush (v := 255) hx hb d_TC_write_20 (by decide) ?_
        refine lv_iand hx hb d_TC_write_23 ?_
        refine lv_istore (lv' := [(5, .int ((((ch.toUInt64 >>> ((8 * (nI j)).toInt64.toUInt64 &&& Int64.toUInt64 63)).toInt64).toInt32) &&& 255)), (0, .ref h0), (1, .long ch), (3, .int (nI a)), (4, .int (nI j))]) hx hb d_TC_write_24 hl (by decide) rfl (fun ls hl => ?_)
        refine lv_iload hx hb d_TC_write_26 (lv_at hl 0 rfl) ?_
        refine lv_if_ne (tgt := 34) hx hb d_TC_write_28 rfl (fun ht3 => ?_) (fun hf4 => ?_)
        · refine lv_iload hx hb d_TC_write_34 (lv_at hl 0 rfl) ?_
          refine lv_bipush (v := 32) hx hb d_TC_write_36 (by decide) ?_
          refine lv_icmp_lt (tgt := 59) hx hb d_TC_write_38 rfl (fun ht5 => ?_) (fun hf6 => ?_)
          · refine lv_iconst (v := 0) hx hb d_TC_write_59 (by decide) ?_
            exact Ct.zret hx hb hr hnl hW (by decide) (by decide) d_TC_write_60 (by decide) (by
          rw [wrG_s (by omega), if_neg (show ¬ wcd ch j = 0 from ht3), if_pos (show wcd ch j < 32 from ht5)] at hg
          rw [← hg]
          exact ⟨rfl, rfl⟩)
          · refine lv_iload hx hb d_TC_write_41 (lv_at hl 0 rfl) ?_
            refine lv_bipush (v := 126) hx hb d_TC_write_43 (by decide) ?_
            refine lv_icmp_gt (tgt := 59) hx hb d_TC_write_45 rfl (fun ht7 => ?_) (fun hf8 => ?_)
            · refine lv_iconst (v := 0) hx hb d_TC_write_59 (by decide) ?_
              exact Ct.zret hx hb hr hnl hW (by decide) (by decide) d_TC_write_60 (by decide) (by
          rw [wrG_s (by omega), if_neg (show ¬ wcd ch j = 0 from ht3), if_neg (show ¬ wcd ch j < 32 from hf6), if_pos (show 126 < wcd ch j from ht7)] at hg
          rw [← hg]
          exact ⟨rfl, rfl⟩)
            · refine lv_aload_n hx hb d_TC_write_48 rfl (lv_at hl 1 rfl) ?_
              refine Wd.get hx hb hts hown hK hW 0 1 in_TC w_fl_TC_56 (by decide) d_TC_write_49 rfl rfl rfl ?_
              refine lv_iload_n hx hb d_TC_write_52 rfl (lv_at hl 3 rfl) ?_
              refine lv_iadd hx hb d_TC_write_53 ?_
              refine lv_bipush (v := 120) hx hb d_TC_write_54 (by decide) ?_
              refine lv_icmp_lt (tgt := 61) hx hb d_TC_write_56 rfl (fun ht9 => ?_) (fun hf10 => ?_)
              · refine lv_aload_n hx hb d_TC_write_61 rfl (lv_at hl 1 rfl) ?_
                refine Wd.get hx hb hts hown hK hW 0 0 in_TC w_fl_TC_9 (by decide) d_TC_write_62 rfl rfl rfl ?_
                refine lv_aload_n hx hb d_TC_write_65 rfl (lv_at hl 1 rfl) ?_
                refine Wd.get hx hb hts hown hK hW 0 1 in_TC w_fl_TC_56 (by decide) d_TC_write_66 rfl rfl rfl ?_
                refine lv_iload_n hx hb d_TC_write_69 rfl (lv_at hl 3 rfl) ?_
                refine lv_iadd hx hb d_TC_write_70 ?_
                refine lv_iload hx hb d_TC_write_71 (lv_at hl 0 rfl) ?_
                refine lv_i2c (v := (((((ch.toUInt64 >>> ((8 * (nI j)).toInt64.toUInt64 &&& Int64.toUInt64 63)).toInt64).toInt32) &&& 255).toUInt32 % 65536).toInt32) hx hb d_TC_write_73 rfl ?_
                refine Wd.cast hx hb hK hW 1 d_TC_write_74 rfl (by rw [nI_add]; exact vp_in_nI (by have := (nI_ltI (a := L + a) (b := 120) (by omega) (by omega)).mp (by rw [← nI_add]; assumption); omega) (by omega)) (fun H locs hW => ?_)
                have hW : Wd G A s.heap [(h0, .inr (0, [.ref tx, .int (nI L), .ref rd, .ref sc, .int sth, .int wa, .ref ip, .ref is_, .ref ky, .ref ks, .ref of_, .ref ou, .int oc, .int rn])), (tx, .inl (G.2 2, 120, .inl (upd f (((nI L) + (nI a)).toNatClampNeg) (vp_nar .char ((((((ch.toUInt64 >>> ((8 * (nI j)).toInt64.toUInt64 &&& Int64.toUInt64 63)).toInt64).toInt32) &&& 255).toUInt32 % 65536).toInt32)))))] H locs := hW
                refine lv_iinc (k := 3) (v := nI (a + 1)) (lv' := [(3, .int (nI (a + 1))), (5, .int ((((ch.toUInt64 >>> ((8 * (nI j)).toInt64.toUInt64 &&& Int64.toUInt64 63)).toInt64).toInt32) &&& 255)), (0, .ref h0), (1, .long ch), (4, .int (nI j))]) hx hb d_TC_write_75 hl rfl (nI_succ a).symm (by decide) rfl (fun ls hl => ?_)
                refine lv_iinc (k := 4) (v := nI (j + 1)) (lv' := [(4, .int (nI (j + 1))), (3, .int (nI (a + 1))), (5, .int ((((ch.toUInt64 >>> ((8 * (nI j)).toInt64.toUInt64 &&& Int64.toUInt64 63)).toInt64).toInt32) &&& 255)), (0, .ref h0), (1, .long ch)]) hx hb d_TC_write_78 hl rfl (nI_succ j).symm (by decide) rfl (fun ls hl => ?_)
                refine lv_goto (tgt := 5) hx hb d_TC_write_81 rfl ?_
                exact ih5 (j + 1) (a + 1) (upd f (((nI L) + (nI a)).toNatClampNeg) (vp_nar .char ((((((ch.toUInt64 >>> ((8 * (nI j)).toInt64.toUInt64 &&& Int64.toUInt64 63)).toInt64).toInt32) &&& 255).toUInt32 % 65536).toInt32))) ls H locs (by omega) (by omega) (by rw [wrG_s (by omega), if_neg (show ¬ wcd ch j = 0 from ht3), if_neg (show ¬ wcd ch j < 32 from hf6), if_neg (show ¬ 126 < wcd ch j from hf8), if_pos (show nI L + nI a < 120 from ht9)] at hg; rw [show 8 - (j + 1) = 8 - j - 1 by omega]; exact hg) (by omega) (lv_sub hl [3, 4, 1, 0] rfl) hW
              · refine lv_iconst (v := 0) hx hb d_TC_write_59 (by decide) ?_
                exact Ct.zret hx hb hr hnl hW (by decide) (by decide) d_TC_write_60 (by decide) (by
          rw [wrG_s (by omega), if_neg (show ¬ wcd ch j = 0 from ht3), if_neg (show ¬ wcd ch j < 32 from hf6), if_neg (show ¬ 126 < wcd ch j from hf8), if_neg (show ¬ nI L + nI a < 120 from hf10)] at hg
          rw [← hg]
          exact ⟨rfl, rfl⟩)
        · refine lv_goto (tgt := 78) hx hb d_TC_write_31 rfl ?_
          refine lv_iinc (k := 4) (v := nI (j + 1)) (lv' := [(4, .int (nI (j + 1))), (5, .int ((((ch.toUInt64 >>> ((8 * (nI j)).toInt64.toUInt64 &&& Int64.toUInt64 63)).toInt64).toInt32) &&& 255)), (0, .ref h0), (1, .long ch), (3, .int (nI a))]) hx hb d_TC_write_78 hl rfl (nI_succ j).symm (by decide) rfl (fun ls hl => ?_)
          refine lv_goto (tgt := 5) hx hb d_TC_write_81 rfl ?_
          exact ih5 (j + 1) a f ls H locs (by omega) (by omega) (by rw [wrG_s (by omega), if_pos (show wcd ch j = 0 from hf4)] at hg; rw [show 8 - (j + 1) = 8 - j - 1 by omega]; exact hg) (by omega) (lv_sub hl [2, 3, 4, 0] rfl) hW
  exact loop5 (_ + 1) 0 0 f0 ls H locs (Nat.zero_le _) (Nat.le_refl _) rfl (Nat.lt_succ_self _) (lv_sub hl [2, 3, 1, 0] rfl) hW

abbrev rm_TC_wipe : Room := { frames := 0, cells := 0, slots := 0, locals := 0 }
set_option maxHeartbeats 4000000 in
set_option maxRecDepth 100000 in
theorem c_TC_wipe (l : Launch) (G : Gt) (h0 : Nat) (tx : Nat) (rd : Nat) (sc : Nat) (sth : Int32) (wa : Int32) (ip : Nat) (is_ : Nat) (ky : Nat) (ks : Nat) (of_ : Nat) (ou : Nat) (oc : Int32) (rn : Int32) (ln : Int32) : Ct l G y_TC_wipe b_TC_wipe 2 (some .int) rm_TC_wipe [.ref h0] [(h0, .inr (0, [.ref tx, .int ln, .ref rd, .ref sc, .int sth, .int wa, .ref ip, .ref is_, .ref ky, .ref ks, .ref of_, .ref ou, .int oc, .int rn]))] 0 0 (fun v w' => v = some (.int ln) ∧ w' = [(h0, .inr (0, [.ref tx, .int 0, .ref rd, .ref sc, .int sth, .int wa, .ref ip, .ref is_, .ref ky, .ref ks, .ref of_, .ref ou, .int oc, .int rn]))]) := by
  refine Ct.of (by decide) (Nat.le_of_ble_eq_true rfl) (fun p e s m args below meth c A ls H locs hx hb hml hr hnl hown hts hnm hK hA hl hW => ?_)
  have hl : lv_has ls 2 [(0, .ref h0)] := hl
  refine lv_aload_n hx hb d_TC_wipe_0 rfl (lv_at hl 0 rfl) ?_
  refine Wd.get hx hb hts hown hK hW 0 1 in_TC w_fl_TC_56 (by decide) d_TC_wipe_1 rfl rfl rfl ?_
  refine lv_istore_n (lv' := [(1, .int ln), (0, .ref h0)]) hx hb d_TC_wipe_4 rfl hl (by decide) rfl (fun ls hl => ?_)
  refine lv_aload_n hx hb d_TC_wipe_5 rfl (lv_at hl 1 rfl) ?_
  refine lv_iconst (v := 0) hx hb d_TC_wipe_6 (by decide) ?_
  refine Wd.put hx hb hts hown hK hW 0 1 in_TC t_TC_ok n_TC w_fl_TC_56 (by decide) d_TC_wipe_7 rfl rfl rfl rfl rfl (Nat.le_of_ble_eq_true rfl) (fun H locs hW => ?_)
  have hW : Wd G A s.heap [(h0, .inr (0, [.ref tx, .int 0, .ref rd, .ref sc, .int sth, .int wa, .ref ip, .ref is_, .ref ky, .ref ks, .ref of_, .ref ou, .int oc, .int rn]))] H locs := hW
  refine lv_iload_n hx hb d_TC_wipe_10 rfl (lv_at hl 0 rfl) ?_
  exact Ct.iret hx hb hr hnl hW (by decide) (by decide) d_TC_wipe_11 ⟨rfl, rfl⟩

abbrev rm_TC_place : Room := { frames := 0, cells := 0, slots := 0, locals := 0 }
set_option maxHeartbeats 4000000 in
set_option maxRecDepth 100000 in
theorem c_TC_place (l : Launch) (G : Gt) (h0 : Nat) (tx : Nat) (rd : Nat) (sc : Nat) (sth : Int32) (wa : Int32) (ip : Nat) (is_ : Nat) (ky : Nat) (ks : Nat) (of_ : Nat) (ou : Nat) (oc : Int32) (rn : Int32) (ln : Int32) : Ct l G y_TC_place b_TC_place 1 (some .int) rm_TC_place [.ref h0] [(h0, .inr (0, [.ref tx, .int ln, .ref rd, .ref sc, .int sth, .int wa, .ref ip, .ref is_, .ref ky, .ref ks, .ref of_, .ref ou, .int oc, .int rn]))] 0 0 (fun v w' => v = some (.int wa) ∧ w' = [(h0, .inr (0, [.ref tx, .int ln, .ref rd, .ref sc, .int sth, .int wa, .ref ip, .ref is_, .ref ky, .ref ks, .ref of_, .ref ou, .int oc, .int rn]))]) := by
  refine Ct.of (by decide) (Nat.le_of_ble_eq_true rfl) (fun p e s m args below meth c A ls H locs hx hb hml hr hnl hown hts hnm hK hA hl hW => ?_)
  have hl : lv_has ls 1 [(0, .ref h0)] := hl
  refine lv_aload_n hx hb d_TC_place_0 rfl (lv_at hl 0 rfl) ?_
  refine Wd.get hx hb hts hown hK hW 0 5 in_TC w_fl_TC_27 (by decide) d_TC_place_1 rfl rfl rfl ?_
  exact Ct.iret hx hb hr hnl hW (by decide) (by decide) d_TC_place_4 ⟨rfl, rfl⟩

