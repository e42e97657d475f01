/-! run's wrapper, where the world that comes back is one of a family -/
set_option maxHeartbeats 1000000 in
theorem wr_run_retE {Z : Type} {l : Launch} {G : Gt} {V : Ev} {rm : Room} {wc : va_W} {wt : Z → va_W} {mc ms : Nat} {fs : List Value} (b : Nat) (x : Int32) (q : Nat) (fo : Nat → Int64) (v0 : Int32) (hM : CtX l G V y_TC_run (.code y_TC_run b_TC_run 2 (some .int)) rm [.ref b, .int x] wc mc ms (fun o w' => ∃ z, o = .inl (some (.int v0)) ∧ w' = wt z)) (h0 : wc[0]? = some (b, .inr (0, fs))) (hln : ∀ z, wc.length ≤ (wt z).length) (hrc : rm.cells = mc) (hrs : rm.slots = ms) (RW : Room) (hRf : rm.frames + 1 ≤ RW.frames) (hRl : 21 + rm.locals ≤ RW.locals) (hRc : RW.cells = mc) (hRs : RW.slots = ms) :
    CtX l G V y_Law_run hd_Law_run RW [.ref b, .int x, .ref q] ([(q, .inl (G.2 1, 1, .inr (.inl fo)))] ++ wc) mc ms (fun o w' => ∃ z, o = .inl (some (.int 0)) ∧ w' = ([(q, .inl (G.2 1, 1, .inr (.inl (vp_updL fo 0 v0.toInt64))))] ++ wt z)) := by
  refine CtX.of HdOf.codeWith (by decide) (Nat.le_of_ble_eq_true rfl) (fun p e s m args below meth c A ls H locs hx hb hml hr hnl hown hts hnm hK hA hl hW hE htab => ?_)
  have hl : lv_has ls 4 [(0, .ref b), (1, .int x), (2, .ref q)] := hl
  have hW : Wd G A s.heap ([(q, .inl (G.2 1, 1, .inr (.inl fo)))] ++ wc) H locs := hW
  refine lv_aload_n hx hb d_Law_run_0 rfl (lv_at hl 2 rfl) ?_
  refine lv_iconst (v := 0) hx hb d_Law_run_1 (by decide) ?_
  refine lv_aload_n hx hb d_Law_run_2 rfl (lv_at hl 0 rfl) ?_
  refine lv_iload_n hx hb d_Law_run_3 rfl (lv_at hl 1 rfl) ?_
  refine CtX.callVB (As := [.int x]) (rest := [.int 0, .ref q]) (wr := [(q, .inl (G.2 1, 1, .inr (.inl fo)))]) (wc := wc) hx hb hml hown hts hK hE hA hl.1 hW (List.perm_append_comm) hM w_ml_Law_23 w_im_TC_run w_se_TC_run w_ini_TC w_code_TC_run yd_TC_run.2 (ci := 0) (r := vr_TC) rfl rfl h0 rfl rfl (Nat.le_of_ble_eq_true rfl) d_Law_run_4 hRf hRl hrc hrs ⟨by rw [hRc]; omega, by rw [hRs]; omega⟩ (fun o w' hp => by obtain ⟨z, -, rfl⟩ := hp; exact hln z) (fun v w' H locs hp hW => ?_) (fun X a cell w' H locs hp hW hcell hobj hcls => ?_)
  · obtain ⟨z, hv, rfl⟩ := hp
    cases hv
    refine W.eq (g2 := F0 m 7 ls [.int v0, .int 0, .ref q]) rfl ?_
    refine lv_i2l (v := v0.toInt64) hx hb d_Law_run_7 rfl ?_
    refine Wd.last hx hb hK hW 0 d_Law_run_8 rfl (by unfold vp_in; decide) (fun H locs hW => ?_)
    have hW : Wd G A s.heap ([(q, .inl (G.2 1, 1, .inr (.inl (vp_updL fo 0 v0.toInt64))))] ++ wt z) H locs := hW
    refine lv_goto (tgt := 15) hx hb d_Law_run_9 rfl ?_
    refine lv_iconst (v := 0) hx hb d_Law_run_15 (by decide) ?_
    exact CtX.iret hx hb hr hnl hW (by omega) (by omega) d_Law_run_16 ⟨z, rfl, rfl⟩
  · obtain ⟨z, h, -⟩ := hp
    cases h
