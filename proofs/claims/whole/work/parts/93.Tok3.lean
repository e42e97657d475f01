/-! the whole text's tokens -/
theorem cpy_lt {f g : Nat → Int32} {L j : Nat} (hL : L ≤ 120) (hj : j < L) : va_cpy f g 0 0 (nI L).toNatClampNeg j = f j := by
  rw [nI_clamp (by omega)]
  unfold va_cpy
  rw [if_pos ⟨Nat.zero_le _, by omega⟩]
  congr 1
  omega
abbrev tkX (f : Nat → Int32) (L : Nat) (kd bg vl : Nat → Int32) : (Nat → Int32) × (Nat → Int32) × (Nat → Int32) × Nat := scG f L (L + 1) 0 (kd, bg, vl, 0)

theorem lt_255 {x : Int32} (h : ¬ 126 < x) : ¬ 255 < x := fun q => h (Int32.lt_trans (by decide) q)
theorem ch_fit {x : Int32} (h : ¬ x < 0 ∧ ¬ 126 < x) : fits .char (.int x) = true := by
  obtain ⟨j, hj, rfl⟩ := nI_of h.1
  have hj2 : j ≤ 126 := by
    apply Nat.le_of_not_lt
    intro q
    exact h.2 (nI_lt (a := 126) q hj)
  exact (pk_charN (q := j) (by omega)).2
abbrev rm_cx_Tokens_scan : Room := { frames := 7, cells := 0, slots := 0, locals := 156 }
set_option maxHeartbeats 4000000 in
set_option maxRecDepth 100000 in
theorem cx_Tokens_scan (l : Launch) (G : Gt) (V : Ev) (hfl : l.flags = flags0) (h0 : Nat) (h0t : Nat) (h0k : Nat) (h0b : Nat) (h0v : Nat) (ct : Int32) (tt : Nat → Int32) (kd0 : Nat → Int32) (bg0 : Nat → Int32) (vl0 : Nat → Int32) (h1 : Nat) (fr : Nat → Int32) (L : Nat) (hL : L ≤ 120) (hf : ∀ j, j < L → ¬ fr j < 0 ∧ ¬ 126 < fr j) : CtX l G V y_Tokens_scan (.code y_Tokens_scan b_Tokens_scan 5 none) rm_cx_Tokens_scan [.ref h0, .ref h1, .int (nI L)] [(h0, .inr (11, [.ref h0t, .ref h0k, .ref h0b, .ref h0v, .int ct])), (h0t, .inl (G.2 2, 120, .inl tt)), (h0k, .inl (G.2 0, 121, .inl kd0)), (h0b, .inl (G.2 0, 121, .inl bg0)), (h0v, .inl (G.2 0, 121, .inl vl0)), (h1, .inl (G.2 2, 120, .inl fr))] 0 0 (fun o w' => o = .inl none ∧ w' = [(h0, .inr (11, [.ref h0t, .ref h0k, .ref h0b, .ref h0v, .int (nI (tkX (va_cpy fr tt 0 0 (nI L).toNatClampNeg) L kd0 bg0 vl0).2.2.2 + 1)])), (h0t, .inl (G.2 2, 120, .inl (va_cpy fr tt 0 0 (nI L).toNatClampNeg))), (h0k, .inl (G.2 0, 121, .inl (upd (tkX (va_cpy fr tt 0 0 (nI L).toNatClampNeg) L kd0 bg0 vl0).1 (nI (tkX (va_cpy fr tt 0 0 (nI L).toNatClampNeg) L kd0 bg0 vl0).2.2.2).toNatClampNeg 0))), (h0b, .inl (G.2 0, 121, .inl (upd (tkX (va_cpy fr tt 0 0 (nI L).toNatClampNeg) L kd0 bg0 vl0).2.1 (nI (tkX (va_cpy fr tt 0 0 (nI L).toNatClampNeg) L kd0 bg0 vl0).2.2.2).toNatClampNeg (nI L)))), (h0v, .inl (G.2 0, 121, .inl (upd (tkX (va_cpy fr tt 0 0 (nI L).toNatClampNeg) L kd0 bg0 vl0).2.2.1 (nI (tkX (va_cpy fr tt 0 0 (nI L).toNatClampNeg) L kd0 bg0 vl0).2.2.2).toNatClampNeg 0))), (h1, .inl (G.2 2, 120, .inl fr))]) := by
  refine CtX.of HdOf.code (by decide) (Nat.le_of_ble_eq_true rfl) (fun p e s m args below meth c A ls H locs hx hb hml hr hnl hown hts hnm hK hA hl hW hE htab => ?_)
  have hl : lv_has ls 5 [(0, .ref h0), (1, .ref h1), (2, .int (nI L))] := hl
  refine lv_aload_n hx hb d_Tokens_scan_0 rfl (lv_at hl 1 rfl) ?_
  refine lv_iconst (v := 0) hx hb d_Tokens_scan_1 (by decide) ?_
  refine lv_aload_n hx hb d_Tokens_scan_2 rfl (lv_at hl 0 rfl) ?_
  refine Wd.get hx hb hts hown hK hW 0 0 in_Tokens w_fl_Tokens_9 (by decide) d_Tokens_scan_3 rfl rfl rfl ?_
  refine lv_iconst (v := 0) hx hb d_Tokens_scan_6 (by decide) ?_
  refine lv_iload_n hx hb d_Tokens_scan_7 rfl (lv_at hl 2 rfl) ?_
  refine Wd.copyi (sp := 0) (dp := 0) hx hb (hml.trans hl.1.symm) hts hown hK hW 5 1 2 w_ml_Tokens_25 d_Tokens_scan_8 rfl rfl rfl rfl (by decide) (by decide) (nI_ge0 L (by omega)) (by rw [nI_clamp (by omega)]; show 0 + L ≤ 120; omega) (by rw [nI_clamp (by omega)]; show 0 + L ≤ 120; omega) (fun i hi => by have h0 : (0 : Int32).toNatClampNeg + i = i := Nat.zero_add i; rw [h0]; exact ch_fit (hf i (by rw [nI_clamp (by omega)] at hi; exact hi))) (by decide) (Nat.le_of_ble_eq_true rfl) (fun H locs hW => ?_)
  have hW : Wd G A s.heap [(h0, .inr (11, [.ref h0t, .ref h0k, .ref h0b, .ref h0v, .int ct])), (h0t, .inl (G.2 2, 120, .inl (va_cpy fr tt 0 0 ((nI L).toNatClampNeg)))), (h0k, .inl (G.2 0, 121, .inl kd0)), (h0b, .inl (G.2 0, 121, .inl bg0)), (h0v, .inl (G.2 0, 121, .inl vl0)), (h1, .inl (G.2 2, 120, .inl fr))] H locs := hW
  refine lv_aload_n hx hb d_Tokens_scan_11 rfl (lv_at hl 0 rfl) ?_
  refine lv_iconst (v := 0) hx hb d_Tokens_scan_12 (by decide) ?_
  refine Wd.put hx hb hts hown hK hW 0 4 in_Tokens t_Tokens_ok n_Tokens w_fl_Tokens_31 (by decide) d_Tokens_scan_13 rfl rfl rfl rfl rfl (Nat.le_of_ble_eq_true rfl) (fun H locs hW => ?_)
  have hW : Wd G A s.heap [(h0, .inr (11, [.ref h0t, .ref h0k, .ref h0b, .ref h0v, .int 0])), (h0t, .inl (G.2 2, 120, .inl (va_cpy fr tt 0 0 ((nI L).toNatClampNeg)))), (h0k, .inl (G.2 0, 121, .inl kd0)), (h0b, .inl (G.2 0, 121, .inl bg0)), (h0v, .inl (G.2 0, 121, .inl vl0)), (h1, .inl (G.2 2, 120, .inl fr))] H locs := hW
  refine lv_iconst (v := 0) hx hb d_Tokens_scan_16 (by decide) ?_
  refine lv_istore_n (lv' := [(3, .int 0), (0, .ref h0), (1, .ref h1), (2, .int (nI L))]) hx hb d_Tokens_scan_17 rfl hl (by decide) rfl (fun ls hl => ?_)
  have loop18 : ∀ (u : Nat) (pp : Nat) (kd : Nat → Int32) (bg : Nat → Int32) (vl : Nat → Int32) (cn : Nat) (ls : Array Slot) (H : Heap) (locs : List Loc), pp ≤ L → cn ≤ pp → scG (va_cpy fr tt 0 0 (nI L).toNatClampNeg) L (L + 1 - pp) pp (kd, bg, vl, cn) = tkX (va_cpy fr tt 0 0 (nI L).toNatClampNeg) L kd0 bg0 vl0 → (L - pp) < u → lv_has ls 5 [(0, .ref h0), (2, .int (nI L)), (3, .int (nI pp))] → Wd G A s.heap [(h0, .inr (11, [.ref h0t, .ref h0k, .ref h0b, .ref h0v, .int (nI cn)])), (h0t, .inl (G.2 2, 120, .inl (va_cpy fr tt 0 0 (nI L).toNatClampNeg))), (h0k, .inl (G.2 0, 121, .inl kd)), (h0b, .inl (G.2 0, 121, .inl bg)), (h0v, .inl (G.2 0, 121, .inl vl)), (h1, .inl (G.2 2, 120, .inl fr))] H locs → W p l e rm_cx_Tokens_scan s m args below meth c H locs 0 0 (MQX below (QX G (fun o w' => o = .inl none ∧ w' = [(h0, .inr (11, [.ref h0t, .ref h0k, .ref h0b, .ref h0v, .int (nI (tkX (va_cpy fr tt 0 0 (nI L).toNatClampNeg) L kd0 bg0 vl0).2.2.2 + 1)])), (h0t, .inl (G.2 2, 120, .inl (va_cpy fr tt 0 0 (nI L).toNatClampNeg))), (h0k, .inl (G.2 0, 121, .inl (upd (tkX (va_cpy fr tt 0 0 (nI L).toNatClampNeg) L kd0 bg0 vl0).1 (nI (tkX (va_cpy fr tt 0 0 (nI L).toNatClampNeg) L kd0 bg0 vl0).2.2.2).toNatClampNeg 0))), (h0b, .inl (G.2 0, 121, .inl (upd (tkX (va_cpy fr tt 0 0 (nI L).toNatClampNeg) L kd0 bg0 vl0).2.1 (nI (tkX (va_cpy fr tt 0 0 (nI L).toNatClampNeg) L kd0 bg0 vl0).2.2.2).toNatClampNeg (nI L)))), (h0v, .inl (G.2 0, 121, .inl (upd (tkX (va_cpy fr tt 0 0 (nI L).toNatClampNeg) L kd0 bg0 vl0).2.2.1 (nI (tkX (va_cpy fr tt 0 0 (nI L).toNatClampNeg) L kd0 bg0 vl0).2.2.2).toNatClampNeg 0))), (h1, .inl (G.2 2, 120, .inl fr))]) A) args s 0 0 A) (F0 m 18 ls []) := by
    intro u
    induction u with
    | zero => intro pp kd bg vl cn ls H locs hp hcp hg hu; exact absurd hu (Nat.not_lt_zero _)
    | succ u ih18 =>
      intro pp kd bg vl cn ls H locs hp hcp hg hu18 hl hW
      refine lv_iload_n hx hb d_Tokens_scan_18 rfl (lv_at hl 2 rfl) ?_
      refine lv_iload_n hx hb d_Tokens_scan_19 rfl (lv_at hl 1 rfl) ?_
      refine lv_icmp_ge (tgt := 60) hx hb d_Tokens_scan_20 rfl (fun ht1 => ?_) (fun hf2 => ?_)
      · refine lv_aload_n hx hb d_Tokens_scan_60 rfl (lv_at hl 0 rfl) ?_
        refine lv_iconst (v := 0) hx hb d_Tokens_scan_61 (by decide) ?_
        refine lv_iload_n hx hb d_Tokens_scan_62 rfl (lv_at hl 1 rfl) ?_
        refine lv_iconst (v := 0) hx hb d_Tokens_scan_63 (by decide) ?_
        refine Ct.callV (As := [.int 0, .int (nI L), .int 0]) (rest := []) hx hb hml hown hts hK hA hl.1 hW (c_Tokens_add l G h0 h0t h0k h0b h0v (nI cn) kd bg vl (0 : Int32) (nI L) (0 : Int32) (nI_ge0 cn (by omega)) (nI_nge (by omega))) (cwV 3 hts (good_V w_ml_Tokens_44 w_im_Tokens_add w_se_Tokens_add w_ini_Tokens w_code_Tokens_add) rfl rfl rfl yd_Tokens_add ⟨by decide, by decide⟩) [0, 2, 3, 4] (by decide) rfl (ci := 11) (r := vr_Tokens) rfl rfl rfl rfl rfl (Nat.le_of_ble_eq_true rfl) d_Tokens_scan_64 ⟨by decide, by decide⟩ (fun v w' hp => by obtain ⟨-, rfl⟩ := hp; exact Nat.le_of_ble_eq_true rfl) (fun v w' H locs hp hW => ?_)
        obtain ⟨rfl, rfl⟩ := hp
        have hW : Wd G A s.heap [(h0, .inr (11, [.ref h0t, .ref h0k, .ref h0b, .ref h0v, .int ((nI cn) + 1)])), (h0t, .inl (G.2 2, 120, .inl (va_cpy fr tt 0 0 (nI L).toNatClampNeg))), (h0k, .inl (G.2 0, 121, .inl (upd kd (nI cn).toNatClampNeg (0 : Int32)))), (h0b, .inl (G.2 0, 121, .inl (upd bg (nI cn).toNatClampNeg (nI L)))), (h0v, .inl (G.2 0, 121, .inl (upd vl (nI cn).toNatClampNeg (0 : Int32)))), (h1, .inl (G.2 2, 120, .inl fr))] H locs := hW
        refine W.eq (g2 := F0 m 67 ls []) rfl ?_
        exact CtX.vret hx hb hr hnl hW (by decide) (by decide) d_Tokens_scan_67 (by
          have hLp : L ≤ pp := (nI_leI (a := L) (b := pp) (by omega) (by omega)).mp ht1
          have e : (kd, bg, vl, cn) = tkX (va_cpy fr tt 0 0 (nI L).toNatClampNeg) L kd0 bg0 vl0 := by rw [← hg, scG_s (by omega), if_pos hLp]
          rw [← e]
          exact ⟨rfl, rfl⟩)
      · have hpL : pp < L := by apply Nat.lt_of_not_le; intro q; exact hf2 (nI_le q (by omega))
        refine lv_aload_n hx hb d_Tokens_scan_23 rfl (lv_at hl 0 rfl) ?_
        refine Wd.get hx hb hts hown hK hW 0 0 in_Tokens w_fl_Tokens_9 (by decide) d_Tokens_scan_24 rfl rfl rfl ?_
        refine lv_iload_n hx hb d_Tokens_scan_27 rfl (lv_at hl 2 rfl) ?_
        refine Wd.cald hx hb hK hW 1 d_Tokens_scan_28 rfl (vp_in_nI (by omega) (by omega)) ?_
        refine lv_bipush (v := 32) hx hb d_Tokens_scan_29 (by decide) ?_
        refine lv_icmp_ne (tgt := 40) hx hb d_Tokens_scan_31 rfl (fun ht3 => ?_) (fun hf4 => ?_)
        · refine lv_aload_n hx hb d_Tokens_scan_40 rfl (lv_at hl 0 rfl) ?_
          refine lv_iload_n hx hb d_Tokens_scan_41 rfl (lv_at hl 2 rfl) ?_
          refine lv_iload_n hx hb d_Tokens_scan_42 rfl (lv_at hl 1 rfl) ?_
          refine CtX.callV (C := "ThreeClerks$Tokens") (As := [.int (nI pp), .int (nI L)]) (rest := []) hx hb hml hown hts hK hE hA hl.1 hW (cx_Tokens_scanToken l G V hfl h0 h0t h0k h0b h0v cn (va_cpy fr tt 0 0 (nI L).toNatClampNeg) kd bg vl pp L hpL hL (by omega) (fun j hj => by rw [cpy_lt hL hj]; exact (hf j hj).1) (fun j hj => by rw [cpy_lt hL hj]; exact lt_255 (hf j hj).2)) w_ml_Tokens_35 w_im_Tokens_scanToken w_se_Tokens_scanToken w_ini_Tokens w_code_Tokens_scanToken yd_Tokens_scanToken.2 [0, 1, 2, 3, 4] (by decide) rfl (ci := 11) (r := vr_Tokens) rfl rfl rfl rfl rfl (Nat.le_of_ble_eq_true rfl) d_Tokens_scan_43 (by decide) (by decide) rfl rfl ⟨by decide, by decide⟩ (fun o w' hp => by rw [hp.2]; exact Nat.le_of_ble_eq_true rfl) (fun v w' H locs hp hW => ?_) (fun X a cell w' H locs hp => absurd hp.1 (fun h => by cases h))
          obtain ⟨hv, rfl⟩ := hp
          cases hv
          have hW : Wd G A s.heap [(h0, .inr (11, [.ref h0t, .ref h0k, .ref h0b, .ref h0v, .int (nI cn + 1)])), (h0t, .inl (G.2 2, 120, .inl (va_cpy fr tt 0 0 (nI L).toNatClampNeg))), (h0k, .inl (G.2 0, 121, .inl (upd kd (nI cn).toNatClampNeg ((tkT (va_cpy fr tt 0 0 (nI L).toNatClampNeg) L pp).2.1)))), (h0b, .inl (G.2 0, 121, .inl (upd bg (nI cn).toNatClampNeg (nI pp)))), (h0v, .inl (G.2 0, 121, .inl (upd vl (nI cn).toNatClampNeg ((tkT (va_cpy fr tt 0 0 (nI L).toNatClampNeg) L pp).2.2)))), (h1, .inl (G.2 2, 120, .inl fr))] H locs := hW
          refine W.eq (g2 := F0 m 46 ls [.int (nI (tkT (va_cpy fr tt 0 0 (nI L).toNatClampNeg) L pp).1)]) rfl ?_
          refine lv_istore (lv' := [(4, .int (nI (tkT (va_cpy fr tt 0 0 (nI L).toNatClampNeg) L pp).1)), (0, .ref h0), (2, .int (nI L)), (3, .int (nI pp))]) hx hb d_Tokens_scan_46 hl (by decide) rfl (fun ls hl => ?_)
          refine lv_iload_n hx hb d_Tokens_scan_48 rfl (lv_at hl 3 rfl) ?_
          refine lv_iconst (v := 1) hx hb d_Tokens_scan_49 (by decide) ?_
          refine lv_iadd hx hb d_Tokens_scan_50 ?_
          refine lv_iload hx hb d_Tokens_scan_51 (lv_at hl 0 rfl) ?_
          rcases Classical.em (((nI pp) + 1) < (nI (tkT (va_cpy fr tt 0 0 (nI L).toNatClampNeg) L pp).1)) with ht5 | hf6
          · refine Ct.callS (As := [.int ((nI pp) + 1), .int (nI (tkT (va_cpy fr tt 0 0 (nI L).toNatClampNeg) L pp).1)]) (rest := []) hx hb hml hown hts hK hA hl.1 hW (c_JMath_max_0 l G ((nI pp) + 1) (nI (tkT (va_cpy fr tt 0 0 (nI L).toNatClampNeg) L pp).1) ht5) (va_cwS 2 hts (good_S w_ml_Tokens_39 w_st_JMath_max w_ini_JMath w_code_JMath_max) rfl rfl rfl yd_JMath_max.2 ⟨by decide, by decide⟩) [] (by decide) rfl rfl rfl (Nat.le_of_ble_eq_true rfl) d_Tokens_scan_53 ⟨by decide, by decide⟩ (fun v w' hp => by obtain ⟨-, rfl⟩ := hp; exact Nat.le_of_ble_eq_true rfl) (fun v w' H locs hp hW => ?_)
            obtain ⟨rfl, rfl⟩ := hp
            have hW : Wd G A s.heap [(h0, .inr (11, [.ref h0t, .ref h0k, .ref h0b, .ref h0v, .int (nI cn + 1)])), (h0t, .inl (G.2 2, 120, .inl (va_cpy fr tt 0 0 (nI L).toNatClampNeg))), (h0k, .inl (G.2 0, 121, .inl (upd kd (nI cn).toNatClampNeg ((tkT (va_cpy fr tt 0 0 (nI L).toNatClampNeg) L pp).2.1)))), (h0b, .inl (G.2 0, 121, .inl (upd bg (nI cn).toNatClampNeg (nI pp)))), (h0v, .inl (G.2 0, 121, .inl (upd vl (nI cn).toNatClampNeg ((tkT (va_cpy fr tt 0 0 (nI L).toNatClampNeg) L pp).2.2)))), (h1, .inl (G.2 2, 120, .inl fr))] H locs := hW
            refine W.eq (g2 := F0 m 56 ls [.int (nI (tkT (va_cpy fr tt 0 0 (nI L).toNatClampNeg) L pp).1)]) rfl ?_
            refine lv_istore_n (lv' := [(3, .int (nI (tkT (va_cpy fr tt 0 0 (nI L).toNatClampNeg) L pp).1)), (4, .int (nI (tkT (va_cpy fr tt 0 0 (nI L).toNatClampNeg) L pp).1)), (0, .ref h0), (2, .int (nI L))]) hx hb d_Tokens_scan_56 rfl hl (by decide) rfl (fun ls hl => ?_)
            refine lv_goto (tgt := 18) hx hb d_Tokens_scan_57 rfl ?_
            have hW : Wd G A s.heap [(h0, .inr (11, [.ref h0t, .ref h0k, .ref h0b, .ref h0v, .int (nI (cn + 1))])), (h0t, .inl (G.2 2, 120, .inl (va_cpy fr tt 0 0 (nI L).toNatClampNeg))), (h0k, .inl (G.2 0, 121, .inl (upd kd (nI cn).toNatClampNeg (tkT (va_cpy fr tt 0 0 (nI L).toNatClampNeg) L pp).2.1))), (h0b, .inl (G.2 0, 121, .inl (upd bg (nI cn).toNatClampNeg (nI pp)))), (h0v, .inl (G.2 0, 121, .inl (upd vl (nI cn).toNatClampNeg (tkT (va_cpy fr tt 0 0 (nI L).toNatClampNeg) L pp).2.2))), (h1, .inl (G.2 2, 120, .inl fr))] H locs := by
              rw [nI_succ]
              exact hW
            have ht := tkT_le (f := va_cpy fr tt 0 0 (nI L).toNatClampNeg) (L := L) (b := pp) hpL
            exact ih18 ((tkT (va_cpy fr tt 0 0 (nI L).toNatClampNeg) L pp).1) (upd kd (nI cn).toNatClampNeg (tkT (va_cpy fr tt 0 0 (nI L).toNatClampNeg) L pp).2.1) (upd bg (nI cn).toNatClampNeg (nI pp)) (upd vl (nI cn).toNatClampNeg (tkT (va_cpy fr tt 0 0 (nI L).toNatClampNeg) L pp).2.2) (cn + 1) ls H locs ht.2 (by omega) (by rw [scG_s (by omega), if_neg (by omega), if_neg (show ¬ (va_cpy fr tt 0 0 (nI L).toNatClampNeg) pp = 32 from (by have q := ht3; rw [nI_clamp (n := pp) (by omega)] at q; exact q))] at hg; rw [← hg]; exact scG_fuel _ _ _ _ (by omega) (by omega)) (by omega) (lv_sub hl [2, 3, 0] rfl) hW
          · refine Ct.callS (As := [.int ((nI pp) + 1), .int (nI (tkT (va_cpy fr tt 0 0 (nI L).toNatClampNeg) L pp).1)]) (rest := []) hx hb hml hown hts hK hA hl.1 hW (c_JMath_max_1 l G ((nI pp) + 1) (nI (tkT (va_cpy fr tt 0 0 (nI L).toNatClampNeg) L pp).1) hf6) (va_cwS 2 hts (good_S w_ml_Tokens_39 w_st_JMath_max w_ini_JMath w_code_JMath_max) rfl rfl rfl yd_JMath_max.2 ⟨by decide, by decide⟩) [] (by decide) rfl rfl rfl (Nat.le_of_ble_eq_true rfl) d_Tokens_scan_53 ⟨by decide, by decide⟩ (fun v w' hp => by obtain ⟨-, rfl⟩ := hp; exact Nat.le_of_ble_eq_true rfl) (fun v w' H locs hp hW => ?_)
            obtain ⟨rfl, rfl⟩ := hp
            have hW : Wd G A s.heap [(h0, .inr (11, [.ref h0t, .ref h0k, .ref h0b, .ref h0v, .int (nI cn + 1)])), (h0t, .inl (G.2 2, 120, .inl (va_cpy fr tt 0 0 (nI L).toNatClampNeg))), (h0k, .inl (G.2 0, 121, .inl (upd kd (nI cn).toNatClampNeg ((tkT (va_cpy fr tt 0 0 (nI L).toNatClampNeg) L pp).2.1)))), (h0b, .inl (G.2 0, 121, .inl (upd bg (nI cn).toNatClampNeg (nI pp)))), (h0v, .inl (G.2 0, 121, .inl (upd vl (nI cn).toNatClampNeg ((tkT (va_cpy fr tt 0 0 (nI L).toNatClampNeg) L pp).2.2)))), (h1, .inl (G.2 2, 120, .inl fr))] H locs := hW
            refine W.eq (g2 := F0 m 56 ls [.int ((nI pp) + 1)]) rfl ?_
            refine lv_topi (fun cz ez => ?_)
            obtain rfl : cz = nI (pp + 1) := ez.trans (nI_succ pp).symm
            refine lv_istore_n (lv' := [(3, .int (nI (pp + 1))), (4, .int (nI (tkT (va_cpy fr tt 0 0 (nI L).toNatClampNeg) L pp).1)), (0, .ref h0), (2, .int (nI L))]) hx hb d_Tokens_scan_56 rfl hl (by decide) rfl (fun ls hl => ?_)
            refine lv_goto (tgt := 18) hx hb d_Tokens_scan_57 rfl ?_
            have hW : Wd G A s.heap [(h0, .inr (11, [.ref h0t, .ref h0k, .ref h0b, .ref h0v, .int (nI (cn + 1))])), (h0t, .inl (G.2 2, 120, .inl (va_cpy fr tt 0 0 (nI L).toNatClampNeg))), (h0k, .inl (G.2 0, 121, .inl (upd kd (nI cn).toNatClampNeg (tkT (va_cpy fr tt 0 0 (nI L).toNatClampNeg) L pp).2.1))), (h0b, .inl (G.2 0, 121, .inl (upd bg (nI cn).toNatClampNeg (nI pp)))), (h0v, .inl (G.2 0, 121, .inl (upd vl (nI cn).toNatClampNeg (tkT (va_cpy fr tt 0 0 (nI L).toNatClampNeg) L pp).2.2))), (h1, .inl (G.2 2, 120, .inl fr))] H locs := by
              rw [nI_succ]
              exact hW
            have ht := tkT_le (f := va_cpy fr tt 0 0 (nI L).toNatClampNeg) (L := L) (b := pp) hpL
            have hend : (tkT (va_cpy fr tt 0 0 (nI L).toNatClampNeg) L pp).1 = pp + 1 := by
              apply Nat.le_antisymm _ ht.1
              apply Nat.le_of_not_lt
              intro q
              exact hf6 (by rw [← nI_succ]; exact nI_lt q (by omega))
            exact ih18 (pp + 1) (upd kd (nI cn).toNatClampNeg (tkT (va_cpy fr tt 0 0 (nI L).toNatClampNeg) L pp).2.1) (upd bg (nI cn).toNatClampNeg (nI pp)) (upd vl (nI cn).toNatClampNeg (tkT (va_cpy fr tt 0 0 (nI L).toNatClampNeg) L pp).2.2) (cn + 1) ls H locs (by omega) (by omega) (by rw [scG_s (by omega), if_neg (by omega), if_neg (show ¬ (va_cpy fr tt 0 0 (nI L).toNatClampNeg) pp = 32 from (by have q := ht3; rw [nI_clamp (n := pp) (by omega)] at q; exact q)), hend] at hg; rw [show L + 1 - (pp + 1) = L + 1 - pp - 1 by omega]; exact hg) (by omega) (lv_sub hl [2, 3, 0] rfl) hW
        · refine lv_iload_n hx hb d_Tokens_scan_34 rfl (lv_at hl 2 rfl) ?_
          refine lv_iconst (v := 1) hx hb d_Tokens_scan_35 (by decide) ?_
          refine lv_iadd hx hb d_Tokens_scan_36 ?_
          refine lv_goto (tgt := 46) hx hb d_Tokens_scan_37 rfl ?_
          refine lv_istore (lv' := [(4, .int ((nI pp) + 1)), (0, .ref h0), (2, .int (nI L)), (3, .int (nI pp))]) hx hb d_Tokens_scan_46 hl (by decide) rfl (fun ls hl => ?_)
          refine lv_iload_n hx hb d_Tokens_scan_48 rfl (lv_at hl 3 rfl) ?_
          refine lv_iconst (v := 1) hx hb d_Tokens_scan_49 (by decide) ?_
          refine lv_iadd hx hb d_Tokens_scan_50 ?_
          refine lv_iload hx hb d_Tokens_scan_51 (lv_at hl 0 rfl) ?_
          rcases Classical.em (((nI pp) + 1) < ((nI pp) + 1)) with ht7 | hf8
          · refine Ct.callS (As := [.int ((nI pp) + 1), .int ((nI pp) + 1)]) (rest := []) hx hb hml hown hts hK hA hl.1 hW (c_JMath_max_0 l G ((nI pp) + 1) ((nI pp) + 1) ht7) (va_cwS 2 hts (good_S w_ml_Tokens_39 w_st_JMath_max w_ini_JMath w_code_JMath_max) rfl rfl rfl yd_JMath_max.2 ⟨by decide, by decide⟩) [] (by decide) rfl rfl rfl (Nat.le_of_ble_eq_true rfl) d_Tokens_scan_53 ⟨by decide, by decide⟩ (fun v w' hp => by obtain ⟨-, rfl⟩ := hp; exact Nat.le_of_ble_eq_true rfl) (fun v w' H locs hp hW => ?_)
            obtain ⟨rfl, rfl⟩ := hp
            have hW : Wd G A s.heap [(h0, .inr (11, [.ref h0t, .ref h0k, .ref h0b, .ref h0v, .int (nI cn)])), (h0t, .inl (G.2 2, 120, .inl (va_cpy fr tt 0 0 (nI L).toNatClampNeg))), (h0k, .inl (G.2 0, 121, .inl kd)), (h0b, .inl (G.2 0, 121, .inl bg)), (h0v, .inl (G.2 0, 121, .inl vl)), (h1, .inl (G.2 2, 120, .inl fr))] H locs := hW
            refine W.eq (g2 := F0 m 56 ls [.int ((nI pp) + 1)]) rfl ?_
            refine lv_topi (fun cz ez => ?_)
            obtain rfl : cz = nI (pp + 1) := ez.trans (nI_succ pp).symm
            refine lv_istore_n (lv' := [(3, .int (nI (pp + 1))), (4, .int ((nI pp) + 1)), (0, .ref h0), (2, .int (nI L))]) hx hb d_Tokens_scan_56 rfl hl (by decide) rfl (fun ls hl => ?_)
            refine lv_goto (tgt := 18) hx hb d_Tokens_scan_57 rfl ?_
            exact ih18 (pp + 1) kd bg vl cn ls H locs (by omega) (by omega) (by rw [scG_s (by omega), if_neg (by omega), if_pos (show (va_cpy fr tt 0 0 (nI L).toNatClampNeg) pp = 32 from (by have q := hf4; rw [nI_clamp (n := pp) (by omega)] at q; exact q))] at hg; rw [show L + 1 - (pp + 1) = L + 1 - pp - 1 by omega]; exact hg) (by omega) (lv_sub hl [2, 3, 0] rfl) hW
          · refine Ct.callS (As := [.int ((nI pp) + 1), .int ((nI pp) + 1)]) (rest := []) hx hb hml hown hts hK hA hl.1 hW (c_JMath_max_1 l G ((nI pp) + 1) ((nI pp) + 1) hf8) (va_cwS 2 hts (good_S w_ml_Tokens_39 w_st_JMath_max w_ini_JMath w_code_JMath_max) rfl rfl rfl yd_JMath_max.2 ⟨by decide, by decide⟩) [] (by decide) rfl rfl rfl (Nat.le_of_ble_eq_true rfl) d_Tokens_scan_53 ⟨by decide, by decide⟩ (fun v w' hp => by obtain ⟨-, rfl⟩ := hp; exact Nat.le_of_ble_eq_true rfl) (fun v w' H locs hp hW => ?_)
            obtain ⟨rfl, rfl⟩ := hp
            have hW : Wd G A s.heap [(h0, .inr (11, [.ref h0t, .ref h0k, .ref h0b, .ref h0v, .int (nI cn)])), (h0t, .inl (G.2 2, 120, .inl (va_cpy fr tt 0 0 (nI L).toNatClampNeg))), (h0k, .inl (G.2 0, 121, .inl kd)), (h0b, .inl (G.2 0, 121, .inl bg)), (h0v, .inl (G.2 0, 121, .inl vl)), (h1, .inl (G.2 2, 120, .inl fr))] H locs := hW
            refine W.eq (g2 := F0 m 56 ls [.int ((nI pp) + 1)]) rfl ?_
            refine lv_topi (fun cz ez => ?_)
            obtain rfl : cz = nI (pp + 1) := ez.trans (nI_succ pp).symm
            refine lv_istore_n (lv' := [(3, .int (nI (pp + 1))), (4, .int ((nI pp) + 1)), (0, .ref h0), (2, .int (nI L))]) hx hb d_Tokens_scan_56 rfl hl (by decide) rfl (fun ls hl => ?_)
            refine lv_goto (tgt := 18) hx hb d_Tokens_scan_57 rfl ?_
            exact ih18 (pp + 1) kd bg vl cn ls H locs (by omega) (by omega) (by rw [scG_s (by omega), if_neg (by omega), if_pos (show (va_cpy fr tt 0 0 (nI L).toNatClampNeg) pp = 32 from (by have q := hf4; rw [nI_clamp (n := pp) (by omega)] at q; exact q))] at hg; rw [show L + 1 - (pp + 1) = L + 1 - pp - 1 by omega]; exact hg) (by omega) (lv_sub hl [2, 3, 0] rfl) hW
  exact loop18 (_ + 1) 0 kd0 bg0 vl0 0 ls H locs (Nat.zero_le _) (Nat.le_refl _) rfl (Nat.lt_succ_self _) (lv_sub hl [1, 3, 0] rfl) hW

