section CRT
variable {p : Program} {l : Launch} {e : Env} {R : Room} {s : State} {m : MethodId} {args : Array Value} {below : List Frame} {meth : Method} {c : Code} {H : Heap} {locs : List Loc} {cells slots : Nat}
variable {cc : ByteArray} {pc : Nat} {ls : Array Slot} {G : Gt} {A : Nat → Prop} {w' : va_W} {mc ms : Nat} {post : Option Value → va_W → Prop}
theorem Ct.cret {v : Int32} (hx : p.tables.exec = Jvm.exec) (hb : c.code = cc) (hr : meth.sig.returnType = some .char) (hnl : meth.locks = false) (hW : Wd G A s.heap w' H locs) (hc : cells ≤ mc) (hs : slots ≤ ms) (hdg : decode cc pc = .ok (.ireturn, 1)) (hn : narrow .char (.int v) = .int v) (hp : post (some (.int v)) w') :
    W p l e R s m args below meth c H locs cells slots (MQ below (Qcc G post A) args s mc ms A) (F0 m pc ls [.int v]) :=
  W.widen hc hs (W.zret hx hb hr hn (fun _ ht _ => ⟨⟨some (.int v), w', rfl, hp, by rw [ht]; exact hW.1, hW.2.1⟩, hW.2.2.F ht⟩) hW.2.2.2.2 hdg hnl)
end CRT
abbrev rm_Mo_see_0 : Room := { frames := 0, cells := 0, slots := 0, locals := 0 }
set_option maxHeartbeats 4000000 in
set_option maxRecDepth 100000 in
theorem c_Mo_see_0 (l : Launch) (G : Gt) (h0 : Nat) (mcd : Int32) (mty : Int32) (mtx : Nat) (mpl : Int32) (mth : Int32) (mln : Int32) (msc : Nat) (mfr : Int32) (mdr : Nat) (mcm : Int32) (mop : Int32) (mkd : Int32) (mbg : Int32) (mnd : Int32) (mam : Int32) (mis : Nat) (mip : Nat) (msd : Nat) (mrg : Nat) (mmn : Int32) (mou : Nat) (f : Nat → Int32) (x : Int32) (hin : ¬ mty ≤ x → vp_in x 120) (hch : ∀ j, narrow .char (.int (f j)) = .int (f j)) (hs0 : mty ≤ x) : Ct l G y_Mo_see b_Mo_see 2 (some .char) rm_Mo_see_0 [.ref h0, .int x] [(h0, .inr (1, [.int mcd, .int mty, .ref mtx, .int mpl, .int mth, .int mln, .ref msc, .int mfr, .ref mdr, .int mcm, .int mop, .int mkd, .int mbg, .int mnd, .int mam, .ref mis, .ref mip, .ref msd, .ref mrg, .int mmn, .ref mou])), (mtx, .inl (G.2 2, 120, .inl f))] 0 0 (fun v w' => v = some (.int 0) ∧ w' = [(h0, .inr (1, [.int mcd, .int mty, .ref mtx, .int mpl, .int mth, .int mln, .ref msc, .int mfr, .ref mdr, .int mcm, .int mop, .int mkd, .int mbg, .int mnd, .int mam, .ref mis, .ref mip, .ref msd, .ref mrg, .int mmn, .ref mou])), (mtx, .inl (G.2 2, 120, .inl f))]) := by
  refine Ct.of (by decide) (Nat.le_of_ble_eq_true rfl) (fun p e s m args below meth c A ls H locs hx hb hml hr hnl hown hts hnm hK hA hl hW => ?_)
  have hl : lv_has ls 2 [(0, .ref h0), (1, .int x)] := hl
  refine lv_iload_n hx hb d_Mo_see_0 rfl (lv_at hl 1 rfl) ?_
  refine lv_aload_n hx hb d_Mo_see_1 rfl (lv_at hl 0 rfl) ?_
  refine Wd.get hx hb hts hown hK hW 0 1 in_Mo w_fl_Mo_45 (by decide) d_Mo_see_2 rfl rfl rfl ?_
  refine lv_icmp_ge (tgt := 17) hx hb d_Mo_see_5 rfl (fun _ => ?_) (fun hz => absurd hs0 hz)
  refine lv_iconst (v := 0) hx hb d_Mo_see_17 (by decide) ?_
  exact Ct.cret hx hb hr hnl hW (by decide) (by decide) d_Mo_see_18 (by decide) ⟨rfl, rfl⟩

abbrev rm_Mo_see_1 : Room := { frames := 0, cells := 0, slots := 0, locals := 0 }
set_option maxHeartbeats 4000000 in
set_option maxRecDepth 100000 in
theorem c_Mo_see_1 (l : Launch) (G : Gt) (h0 : Nat) (mcd : Int32) (mty : Int32) (mtx : Nat) (mpl : Int32) (mth : Int32) (mln : Int32) (msc : Nat) (mfr : Int32) (mdr : Nat) (mcm : Int32) (mop : Int32) (mkd : Int32) (mbg : Int32) (mnd : Int32) (mam : Int32) (mis : Nat) (mip : Nat) (msd : Nat) (mrg : Nat) (mmn : Int32) (mou : Nat) (f : Nat → Int32) (x : Int32) (hin : ¬ mty ≤ x → vp_in x 120) (hch : ∀ j, narrow .char (.int (f j)) = .int (f j)) (hs0 : ¬ (mty ≤ x)) : Ct l G y_Mo_see b_Mo_see 2 (some .char) rm_Mo_see_1 [.ref h0, .int x] [(h0, .inr (1, [.int mcd, .int mty, .ref mtx, .int mpl, .int mth, .int mln, .ref msc, .int mfr, .ref mdr, .int mcm, .int mop, .int mkd, .int mbg, .int mnd, .int mam, .ref mis, .ref mip, .ref msd, .ref mrg, .int mmn, .ref mou])), (mtx, .inl (G.2 2, 120, .inl f))] 0 0 (fun v w' => v = some (.int (f x.toNatClampNeg)) ∧ w' = [(h0, .inr (1, [.int mcd, .int mty, .ref mtx, .int mpl, .int mth, .int mln, .ref msc, .int mfr, .ref mdr, .int mcm, .int mop, .int mkd, .int mbg, .int mnd, .int mam, .ref mis, .ref mip, .ref msd, .ref mrg, .int mmn, .ref mou])), (mtx, .inl (G.2 2, 120, .inl f))]) := by
  refine Ct.of (by decide) (Nat.le_of_ble_eq_true rfl) (fun p e s m args below meth c A ls H locs hx hb hml hr hnl hown hts hnm hK hA hl hW => ?_)
  have hl : lv_has ls 2 [(0, .ref h0), (1, .int x)] := hl
  refine lv_iload_n hx hb d_Mo_see_0 rfl (lv_at hl 1 rfl) ?_
  refine lv_aload_n hx hb d_Mo_see_1 rfl (lv_at hl 0 rfl) ?_
  refine Wd.get hx hb hts hown hK hW 0 1 in_Mo w_fl_Mo_45 (by decide) d_Mo_see_2 rfl rfl rfl ?_
  refine lv_icmp_ge (tgt := 17) hx hb d_Mo_see_5 rfl (fun hz => absurd hz hs0) (fun _ => ?_)
  refine lv_aload_n hx hb d_Mo_see_8 rfl (lv_at hl 0 rfl) ?_
  refine Wd.get hx hb hts hown hK hW 0 2 in_Mo w_fl_Mo_7 (by decide) d_Mo_see_9 rfl rfl rfl ?_
  refine lv_iload_n hx hb d_Mo_see_12 rfl (lv_at hl 1 rfl) ?_
  refine Wd.cald hx hb hK hW 1 d_Mo_see_13 rfl (hin hs0) ?_
  refine lv_goto (tgt := 18) hx hb d_Mo_see_14 rfl ?_
  exact Ct.cret hx hb hr hnl hW (by decide) (by decide) d_Mo_see_18 (by exact hch _) ⟨rfl, rfl⟩

abbrev rm_Mo_isRegister_0 : Room := { frames := 0, cells := 0, slots := 0, locals := 0 }
set_option maxHeartbeats 4000000 in
set_option maxRecDepth 100000 in
theorem c_Mo_isRegister_0 (l : Launch) (G : Gt) (h0 : Nat) (mcd : Int32) (mty : Int32) (mtx : Nat) (mpl : Int32) (mth : Int32) (mln : Int32) (msc : Nat) (mfr : Int32) (mdr : Nat) (mcm : Int32) (mop : Int32) (mkd : Int32) (mbg : Int32) (mnd : Int32) (mam : Int32) (mis : Nat) (mip : Nat) (msd : Nat) (mrg : Nat) (mmn : Int32) (mou : Nat) (hs0 : ¬ (mkd = 1)) : Ct l G y_Mo_isRegister b_Mo_isRegister 1 (some .boolean) rm_Mo_isRegister_0 [.ref h0] [(h0, .inr (1, [.int mcd, .int mty, .ref mtx, .int mpl, .int mth, .int mln, .ref msc, .int mfr, .ref mdr, .int mcm, .int mop, .int mkd, .int mbg, .int mnd, .int mam, .ref mis, .ref mip, .ref msd, .ref mrg, .int mmn, .ref mou]))] 0 0 (fun v w' => v = some (.int 0) ∧ w' = [(h0, .inr (1, [.int mcd, .int mty, .ref mtx, .int mpl, .int mth, .int mln, .ref msc, .int mfr, .ref mdr, .int mcm, .int mop, .int mkd, .int mbg, .int mnd, .int mam, .ref mis, .ref mip, .ref msd, .ref mrg, .int mmn, .ref mou]))]) := by
  refine Ct.of (by decide) (Nat.le_of_ble_eq_true rfl) (fun p e s m args below meth c A ls H locs hx hb hml hr hnl hown hts hnm hK hA hl hW => ?_)
  have hl : lv_has ls 1 [(0, .ref h0)] := hl
  refine lv_aload_n hx hb d_Mo_isRegister_0 rfl (lv_at hl 0 rfl) ?_
  refine Wd.get hx hb hts hown hK hW 0 11 in_Mo w_fl_Mo_71 (by decide) d_Mo_isRegister_1 rfl rfl rfl ?_
  refine lv_iconst (v := 1) hx hb d_Mo_isRegister_4 (by decide) ?_
  refine lv_icmp_ne (tgt := 25) hx hb d_Mo_isRegister_5 rfl (fun _ => ?_) (fun hz => absurd hz hs0)
  refine lv_iconst (v := 0) hx hb d_Mo_isRegister_25 (by decide) ?_
  exact Ct.zret hx hb hr hnl hW (by decide) (by decide) d_Mo_isRegister_26 (by decide) ⟨rfl, rfl⟩

abbrev rm_Mo_isRegister_1 : Room := { frames := 0, cells := 0, slots := 0, locals := 0 }
set_option maxHeartbeats 4000000 in
set_option maxRecDepth 100000 in
theorem c_Mo_isRegister_1 (l : Launch) (G : Gt) (h0 : Nat) (mcd : Int32) (mty : Int32) (mtx : Nat) (mpl : Int32) (mth : Int32) (mln : Int32) (msc : Nat) (mfr : Int32) (mdr : Nat) (mcm : Int32) (mop : Int32) (mkd : Int32) (mbg : Int32) (mnd : Int32) (mam : Int32) (mis : Nat) (mip : Nat) (msd : Nat) (mrg : Nat) (mmn : Int32) (mou : Nat) (hs0 : mkd = 1) (hs1 : ¬ (mnd = (mbg + 1))) : Ct l G y_Mo_isRegister b_Mo_isRegister 1 (some .boolean) rm_Mo_isRegister_1 [.ref h0] [(h0, .inr (1, [.int mcd, .int mty, .ref mtx, .int mpl, .int mth, .int mln, .ref msc, .int mfr, .ref mdr, .int mcm, .int mop, .int mkd, .int mbg, .int mnd, .int mam, .ref mis, .ref mip, .ref msd, .ref mrg, .int mmn, .ref mou]))] 0 0 (fun v w' => v = some (.int 0) ∧ w' = [(h0, .inr (1, [.int mcd, .int mty, .ref mtx, .int mpl, .int mth, .int mln, .ref msc, .int mfr, .ref mdr, .int mcm, .int mop, .int mkd, .int mbg, .int mnd, .int mam, .ref mis, .ref mip, .ref msd, .ref mrg, .int mmn, .ref mou]))]) := by
  refine Ct.of (by decide) (Nat.le_of_ble_eq_true rfl) (fun p e s m args below meth c A ls H locs hx hb hml hr hnl hown hts hnm hK hA hl hW => ?_)
  have hl : lv_has ls 1 [(0, .ref h0)] := hl
  refine lv_aload_n hx hb d_Mo_isRegister_0 rfl (lv_at hl 0 rfl) ?_
  refine Wd.get hx hb hts hown hK hW 0 11 in_Mo w_fl_Mo_71 (by decide) d_Mo_isRegister_1 rfl rfl rfl ?_
  refine lv_iconst (v := 1) hx hb d_Mo_isRegister_4 (by decide) ?_
  refine lv_icmp_ne (tgt := 25) hx hb d_Mo_isRegister_5 rfl (fun hz => absurd hs0 hz) (fun _ => ?_)
  refine lv_aload_n hx hb d_Mo_isRegister_8 rfl (lv_at hl 0 rfl) ?_
  refine Wd.get hx hb hts hown hK hW 0 13 in_Mo w_fl_Mo_55 (by decide) d_Mo_isRegister_9 rfl rfl rfl ?_
  refine lv_aload_n hx hb d_Mo_isRegister_12 rfl (lv_at hl 0 rfl) ?_
  refine Wd.get hx hb hts hown hK hW 0 12 in_Mo w_fl_Mo_48 (by decide) d_Mo_isRegister_13 rfl rfl rfl ?_
  refine lv_iconst (v := 1) hx hb d_Mo_isRegister_16 (by decide) ?_
  refine lv_iadd hx hb d_Mo_isRegister_17 ?_
  refine lv_icmp_ne (tgt := 25) hx hb d_Mo_isRegister_18 rfl (fun _ => ?_) (fun hz => absurd hz hs1)
  refine lv_iconst (v := 0) hx hb d_Mo_isRegister_25 (by decide) ?_
  exact Ct.zret hx hb hr hnl hW (by decide) (by decide) d_Mo_isRegister_26 (by decide) ⟨rfl, rfl⟩

abbrev rm_Mo_isRegister_2 : Room := { frames := 0, cells := 0, slots := 0, locals := 0 }
set_option maxHeartbeats 4000000 in
set_option maxRecDepth 100000 in
theorem c_Mo_isRegister_2 (l : Launch) (G : Gt) (h0 : Nat) (mcd : Int32) (mty : Int32) (mtx : Nat) (mpl : Int32) (mth : Int32) (mln : Int32) (msc : Nat) (mfr : Int32) (mdr : Nat) (mcm : Int32) (mop : Int32) (mkd : Int32) (mbg : Int32) (mnd : Int32) (mam : Int32) (mis : Nat) (mip : Nat) (msd : Nat) (mrg : Nat) (mmn : Int32) (mou : Nat) (hs0 : mkd = 1) (hs1 : mnd = (mbg + 1)) : Ct l G y_Mo_isRegister b_Mo_isRegister 1 (some .boolean) rm_Mo_isRegister_2 [.ref h0] [(h0, .inr (1, [.int mcd, .int mty, .ref mtx, .int mpl, .int mth, .int mln, .ref msc, .int mfr, .ref mdr, .int mcm, .int mop, .int mkd, .int mbg, .int mnd, .int mam, .ref mis, .ref mip, .ref msd, .ref mrg, .int mmn, .ref mou]))] 0 0 (fun v w' => v = some (.int 1) ∧ w' = [(h0, .inr (1, [.int mcd, .int mty, .ref mtx, .int mpl, .int mth, .int mln, .ref msc, .int mfr, .ref mdr, .int mcm, .int mop, .int mkd, .int mbg, .int mnd, .int mam, .ref mis, .ref mip, .ref msd, .ref mrg, .int mmn, .ref mou]))]) := by
  refine Ct.of (by decide) (Nat.le_of_ble_eq_true rfl) (fun p e s m args below meth c A ls H locs hx hb hml hr hnl hown hts hnm hK hA hl hW => ?_)
  have hl : lv_has ls 1 [(0, .ref h0)] := hl
  refine lv_aload_n hx hb d_Mo_isRegister_0 rfl (lv_at hl 0 rfl) ?_
  refine Wd.get hx hb hts hown hK hW 0 11 in_Mo w_fl_Mo_71 (by decide) d_Mo_isRegister_1 rfl rfl rfl ?_
  refine lv_iconst (v := 1) hx hb d_Mo_isRegister_4 (by decide) ?_
  refine lv_icmp_ne (tgt := 25) hx hb d_Mo_isRegister_5 rfl (fun hz => absurd hs0 hz) (fun _ => ?_)
  refine lv_aload_n hx hb d_Mo_isRegister_8 rfl (lv_at hl 0 rfl) ?_
  refine Wd.get hx hb hts hown hK hW 0 13 in_Mo w_fl_Mo_55 (by decide) d_Mo_isRegister_9 rfl rfl rfl ?_
  refine lv_aload_n hx hb d_Mo_isRegister_12 rfl (lv_at hl 0 rfl) ?_
  refine Wd.get hx hb hts hown hK hW 0 12 in_Mo w_fl_Mo_48 (by decide) d_Mo_isRegister_13 rfl rfl rfl ?_
  refine lv_iconst (v := 1) hx hb d_Mo_isRegister_16 (by decide) ?_
  refine lv_iadd hx hb d_Mo_isRegister_17 ?_
  refine lv_icmp_ne (tgt := 25) hx hb d_Mo_isRegister_18 rfl (fun hz => absurd hs1 hz) (fun _ => ?_)
  refine lv_iconst (v := 1) hx hb d_Mo_isRegister_21 (by decide) ?_
  refine lv_goto (tgt := 26) hx hb d_Mo_isRegister_22 rfl ?_
  exact Ct.zret hx hb hr hnl hW (by decide) (by decide) d_Mo_isRegister_26 (by decide) ⟨rfl, rfl⟩

abbrev rm_Mo_put : Room := { frames := 0, cells := 0, slots := 0, locals := 0 }
set_option maxHeartbeats 4000000 in
set_option maxRecDepth 100000 in
theorem c_Mo_put (l : Launch) (G : Gt) (h0 : Nat) (mcd : Int32) (mty : Int32) (mtx : Nat) (mpl : Int32) (mth : Int32) (mln : Int32) (msc : Nat) (mfr : Int32) (mdr : Nat) (mcm : Int32) (mop : Int32) (mkd : Int32) (mbg : Int32) (mnd : Int32) (mam : Int32) (mis : Nat) (mip : Nat) (msd : Nat) (mrg : Nat) (mmn : Int32) (mou : Nat) (fd : Nat → Int32) (x : Int32) (y : Int32) (hin : vp_in (6 * mfr + x) 400) : Ct l G y_Mo_put b_Mo_put 3 none rm_Mo_put [.ref h0, .int x, .int y] [(h0, .inr (1, [.int mcd, .int mty, .ref mtx, .int mpl, .int mth, .int mln, .ref msc, .int mfr, .ref mdr, .int mcm, .int mop, .int mkd, .int mbg, .int mnd, .int mam, .ref mis, .ref mip, .ref msd, .ref mrg, .int mmn, .ref mou])), (mdr, .inl (G.2 0, 400, .inl fd))] 0 0 (fun v w' => v = none ∧ w' = [(h0, .inr (1, [.int mcd, .int mty, .ref mtx, .int mpl, .int mth, .int mln, .ref msc, .int mfr, .ref mdr, .int mcm, .int mop, .int mkd, .int mbg, .int mnd, .int mam, .ref mis, .ref mip, .ref msd, .ref mrg, .int mmn, .ref mou])), (mdr, .inl (G.2 0, 400, .inl (upd fd (((6 * mfr) + x).toNatClampNeg) y)))]) := by
  refine Ct.of (by decide) (Nat.le_of_ble_eq_true rfl) (fun p e s m args below meth c A ls H locs hx hb hml hr hnl hown hts hnm hK hA hl hW => ?_)
  have hl : lv_has ls 3 [(0, .ref h0), (1, .int x), (2, .int y)] := hl
  refine lv_aload_n hx hb d_Mo_put_0 rfl (lv_at hl 0 rfl) ?_
  refine Wd.get hx hb hts hown hK hW 0 8 in_Mo w_fl_Mo_21 (by decide) d_Mo_put_1 rfl rfl rfl ?_
  refine lv_bipush (v := 6) hx hb d_Mo_put_4 (by decide) ?_
  refine lv_aload_n hx hb d_Mo_put_6 rfl (lv_at hl 0 rfl) ?_
  refine Wd.get hx hb hts hown hK hW 0 7 in_Mo w_fl_Mo_74 (by decide) d_Mo_put_7 rfl rfl rfl ?_
  refine lv_imul hx hb d_Mo_put_10 ?_
  refine lv_iload_n hx hb d_Mo_put_11 rfl (lv_at hl 1 rfl) ?_
  refine lv_iadd hx hb d_Mo_put_12 ?_
  refine lv_iload_n hx hb d_Mo_put_13 rfl (lv_at hl 2 rfl) ?_
  refine Wd.iast hx hb hK hW 1 d_Mo_put_14 rfl hin (fun H locs hW => ?_)
  have hW : Wd G A s.heap [(h0, .inr (1, [.int mcd, .int mty, .ref mtx, .int mpl, .int mth, .int mln, .ref msc, .int mfr, .ref mdr, .int mcm, .int mop, .int mkd, .int mbg, .int mnd, .int mam, .ref mis, .ref mip, .ref msd, .ref mrg, .int mmn, .ref mou])), (mdr, .inl (G.2 0, 400, .inl (upd fd (((6 * mfr) + x).toNatClampNeg) y)))] H locs := hW
  exact Ct.vret hx hb hr hnl hW (by decide) (by decide) d_Mo_put_15 ⟨rfl, rfl⟩

abbrev rm_Mo_isWord0 : Room := { frames := 0, cells := 0, slots := 0, locals := 0 }
set_option maxHeartbeats 4000000 in
set_option maxRecDepth 100000 in
theorem c_Mo_isWord0 (l : Launch) (G : Gt) (h0 : Nat) (mcd : Int32) (mty : Int32) (mtx : Nat) (mpl : Int32) (mth : Int32) (mln : Int32) (msc : Nat) (mfr : Int32) (mdr : Nat) (mcm : Int32) (mop : Int32) (mbg : Int32) (mnd : Int32) (mam : Int32) (mis : Nat) (mip : Nat) (msd : Nat) (mrg : Nat) (mmn : Int32) (mou : Nat) (x0 : Int32) (x1 : Int32) (x2 : Int32) (x3 : Int32) : Ct l G y_Mo_isWord b_Mo_isWord 5 (some .boolean) rm_Mo_isWord0 [.ref h0, .int x0, .int x1, .int x2, .int x3] [(h0, .inr (1, [.int mcd, .int mty, .ref mtx, .int mpl, .int mth, .int mln, .ref msc, .int mfr, .ref mdr, .int mcm, .int mop, .int 0, .int mbg, .int mnd, .int mam, .ref mis, .ref mip, .ref msd, .ref mrg, .int mmn, .ref mou]))] 0 0 (fun v w' => v = some (.int 0) ∧ w' = [(h0, .inr (1, [.int mcd, .int mty, .ref mtx, .int mpl, .int mth, .int mln, .ref msc, .int mfr, .ref mdr, .int mcm, .int mop, .int 0, .int mbg, .int mnd, .int mam, .ref mis, .ref mip, .ref msd, .ref mrg, .int mmn, .ref mou]))]) := by
  refine Ct.of (by decide) (Nat.le_of_ble_eq_true rfl) (fun p e s m args below meth c A ls H locs hx hb hml hr hnl hown hts hnm hK hA hl hW => ?_)
  have hl : lv_has ls 5 [(0, .ref h0), (1, .int x0), (2, .int x1), (3, .int x2), (4, .int x3)] := hl
  refine lv_aload_n hx hb d_Mo_isWord_0 rfl (lv_at hl 0 rfl) ?_
  refine Wd.get hx hb hts hown hK hW 0 11 in_Mo w_fl_Mo_71 (by decide) d_Mo_isWord_1 rfl rfl rfl ?_
  refine lv_iconst (v := 1) hx hb d_Mo_isWord_4 (by decide) ?_
  refine lv_icmp_ne (tgt := 84) hx hb d_Mo_isWord_5 rfl (fun _ => ?_) (fun hz => absurd hz (by decide))
  refine lv_iconst (v := 0) hx hb d_Mo_isWord_84 (by decide) ?_
  exact Ct.zret hx hb hr hnl hW (by decide) (by decide) d_Mo_isWord_85 (by decide) ⟨rfl, rfl⟩

abbrev rm_Mo_scan0 : Room := { frames := 1, cells := 0, slots := 0, locals := 21 }
set_option maxHeartbeats 4000000 in
set_option maxRecDepth 100000 in
theorem c_Mo_scan0 (l : Launch) (G : Gt) (h0 : Nat) (mcd : Int32) (mtx : Nat) (mpl : Int32) (mth : Int32) (mln : Int32) (msc : Nat) (mfr : Int32) (mdr : Nat) (mcm : Int32) (mop : Int32) (mkd : Int32) (mbg : Int32) (mnd : Int32) (mam : Int32) (mis : Nat) (mip : Nat) (msd : Nat) (mrg : Nat) (mmn : Int32) (mou : Nat) (f : Nat → Int32) (hch : ∀ j, narrow .char (.int (f j)) = .int (f j)) : Ct l G y_Mo_scan b_Mo_scan 3 none rm_Mo_scan0 [.ref h0, .int 0] [(h0, .inr (1, [.int mcd, .int 0, .ref mtx, .int mpl, .int mth, .int mln, .ref msc, .int mfr, .ref mdr, .int mcm, .int mop, .int mkd, .int mbg, .int mnd, .int mam, .ref mis, .ref mip, .ref msd, .ref mrg, .int mmn, .ref mou])), (mtx, .inl (G.2 2, 120, .inl f))] 0 0 (fun v w' => v = none ∧ w' = [(h0, .inr (1, [.int mcd, .int 0, .ref mtx, .int mpl, .int mth, .int mln, .ref msc, .int mfr, .ref mdr, .int mcm, .int mop, .int 0, .int 0, .int 0, .int 0, .ref mis, .ref mip, .ref msd, .ref mrg, .int mmn, .ref mou])), (mtx, .inl (G.2 2, 120, .inl f))]) := by
  refine Ct.of (by decide) (Nat.le_of_ble_eq_true rfl) (fun p e s m args below meth c A ls H locs hx hb hml hr hnl hown hts hnm hK hA hl hW => ?_)
  have hl : lv_has ls 3 [(0, .ref h0), (1, .int 0)] := hl
  refine lv_aload_n hx hb d_Mo_scan_0 rfl (lv_at hl 0 rfl) ?_
  refine lv_iload_n hx hb d_Mo_scan_1 rfl (lv_at hl 1 rfl) ?_
  refine Wd.put hx hb hts hown hK hW 0 12 in_Mo t_Mo_ok n_Mo w_fl_Mo_48 (by decide) d_Mo_scan_2 rfl rfl rfl rfl rfl (Nat.le_of_ble_eq_true rfl) (fun H locs hW => ?_)
  have hW : Wd G A s.heap [(h0, .inr (1, [.int mcd, .int 0, .ref mtx, .int mpl, .int mth, .int mln, .ref msc, .int mfr, .ref mdr, .int mcm, .int mop, .int mkd, .int 0, .int mnd, .int mam, .ref mis, .ref mip, .ref msd, .ref mrg, .int mmn, .ref mou])), (mtx, .inl (G.2 2, 120, .inl f))] H locs := hW
  refine lv_aload_n hx hb d_Mo_scan_5 rfl (lv_at hl 0 rfl) ?_
  refine lv_aload_n hx hb d_Mo_scan_6 rfl (lv_at hl 0 rfl) ?_
  refine Wd.get hx hb hts hown hK hW 0 12 in_Mo w_fl_Mo_48 (by decide) d_Mo_scan_7 rfl rfl rfl ?_
  refine Ct.callV (As := [.int 0]) (rest := []) hx hb hml hown hts hK hA hl.1 hW (c_Mo_see_0 l G h0 mcd (0 : Int32) mtx mpl mth mln msc mfr mdr mcm mop mkd (0 : Int32) mnd mam mis mip msd mrg mmn mou f (0 : Int32) (fun h => absurd (by decide) h) hch (by decide)) (cwV 1 hts (good_V w_ml_Mo_51 w_im_Mo_see w_se_Mo_see w_ini_Mo w_code_Mo_see) rfl rfl rfl yd_Mo_see ⟨by decide, by decide⟩) [0, 1] (by decide) rfl (ci := 1) (r := vr_Mo) rfl rfl rfl rfl rfl (Nat.le_of_ble_eq_true rfl) d_Mo_scan_10 ⟨by decide, by decide⟩ (fun v w' hp => by obtain ⟨-, rfl⟩ := hp; exact Nat.le_of_ble_eq_true rfl) (fun v w' H locs hp hW => ?_)
  obtain ⟨rfl, rfl⟩ := hp
  have hW : Wd G A s.heap [(h0, .inr (1, [.int mcd, .int 0, .ref mtx, .int mpl, .int mth, .int mln, .ref msc, .int mfr, .ref mdr, .int mcm, .int mop, .int mkd, .int 0, .int mnd, .int mam, .ref mis, .ref mip, .ref msd, .ref mrg, .int mmn, .ref mou])), (mtx, .inl (G.2 2, 120, .inl f))] H locs := hW
  refine W.eq (g2 := F0 m 13 ls [.int 0]) rfl ?_
  refine lv_bipush (v := 32) hx hb d_Mo_scan_13 (by decide) ?_
  refine lv_icmp_ne (tgt := 31) hx hb d_Mo_scan_15 rfl (fun _ => ?_) (fun hz => absurd hz (by decide))
  refine lv_aload_n hx hb d_Mo_scan_31 rfl (lv_at hl 0 rfl) ?_
  refine lv_aload_n hx hb d_Mo_scan_32 rfl (lv_at hl 0 rfl) ?_
  refine Wd.get hx hb hts hown hK hW 0 12 in_Mo w_fl_Mo_48 (by decide) d_Mo_scan_33 rfl rfl rfl ?_
  refine Wd.put hx hb hts hown hK hW 0 13 in_Mo t_Mo_ok n_Mo w_fl_Mo_55 (by decide) d_Mo_scan_36 rfl rfl rfl rfl rfl (Nat.le_of_ble_eq_true rfl) (fun H locs hW => ?_)
  have hW : Wd G A s.heap [(h0, .inr (1, [.int mcd, .int 0, .ref mtx, .int mpl, .int mth, .int mln, .ref msc, .int mfr, .ref mdr, .int mcm, .int mop, .int mkd, .int 0, .int 0, .int mam, .ref mis, .ref mip, .ref msd, .ref mrg, .int mmn, .ref mou])), (mtx, .inl (G.2 2, 120, .inl f))] H locs := hW
  refine lv_aload_n hx hb d_Mo_scan_39 rfl (lv_at hl 0 rfl) ?_
  refine lv_iconst (v := 0) hx hb d_Mo_scan_40 (by decide) ?_
  refine Wd.put hx hb hts hown hK hW 0 14 in_Mo t_Mo_ok n_Mo w_fl_Mo_58 (by decide) d_Mo_scan_41 rfl rfl rfl rfl rfl (Nat.le_of_ble_eq_true rfl) (fun H locs hW => ?_)
  have hW : Wd G A s.heap [(h0, .inr (1, [.int mcd, .int 0, .ref mtx, .int mpl, .int mth, .int mln, .ref msc, .int mfr, .ref mdr, .int mcm, .int mop, .int mkd, .int 0, .int 0, .int 0, .ref mis, .ref mip, .ref msd, .ref mrg, .int mmn, .ref mou])), (mtx, .inl (G.2 2, 120, .inl f))] H locs := hW
  refine lv_aload_n hx hb d_Mo_scan_44 rfl (lv_at hl 0 rfl) ?_
  refine lv_aload_n hx hb d_Mo_scan_45 rfl (lv_at hl 0 rfl) ?_
  refine Wd.get hx hb hts hown hK hW 0 12 in_Mo w_fl_Mo_48 (by decide) d_Mo_scan_46 rfl rfl rfl ?_
  refine Ct.callV (As := [.int 0]) (rest := []) hx hb hml hown hts hK hA hl.1 hW (c_Mo_see_0 l G h0 mcd (0 : Int32) mtx mpl mth mln msc mfr mdr mcm mop mkd (0 : Int32) (0 : Int32) (0 : Int32) mis mip msd mrg mmn mou f (0 : Int32) (fun h => absurd (by decide) h) hch (by decide)) (cwV 1 hts (good_V w_ml_Mo_51 w_im_Mo_see w_se_Mo_see w_ini_Mo w_code_Mo_see) rfl rfl rfl yd_Mo_see ⟨by decide, by decide⟩) [0, 1] (by decide) rfl (ci := 1) (r := vr_Mo) rfl rfl rfl rfl rfl (Nat.le_of_ble_eq_true rfl) d_Mo_scan_49 ⟨by decide, by decide⟩ (fun v w' hp => by obtain ⟨-, rfl⟩ := hp; exact Nat.le_of_ble_eq_true rfl) (fun v w' H locs hp hW => ?_)
  obtain ⟨rfl, rfl⟩ := hp
  have hW : Wd G A s.heap [(h0, .inr (1, [.int mcd, .int 0, .ref mtx, .int mpl, .int mth, .int mln, .ref msc, .int mfr, .ref mdr, .int mcm, .int mop, .int mkd, .int 0, .int 0, .int 0, .ref mis, .ref mip, .ref msd, .ref mrg, .int mmn, .ref mou])), (mtx, .inl (G.2 2, 120, .inl f))] H locs := hW
  refine W.eq (g2 := F0 m 52 ls [.int 0]) rfl ?_
  refine lv_istore_n (lv' := [(2, .int 0), (0, .ref h0), (1, .int 0)]) hx hb d_Mo_scan_52 rfl hl (by decide) rfl (fun ls hl => ?_)
  refine lv_aload_n hx hb d_Mo_scan_53 rfl (lv_at hl 1 rfl) ?_
  refine lv_aload_n hx hb d_Mo_scan_54 rfl (lv_at hl 1 rfl) ?_
  refine Wd.get hx hb hts hown hK hW 0 12 in_Mo w_fl_Mo_48 (by decide) d_Mo_scan_55 rfl rfl rfl ?_
  refine lv_aload_n hx hb d_Mo_scan_58 rfl (lv_at hl 1 rfl) ?_
  refine Wd.get hx hb hts hown hK hW 0 1 in_Mo w_fl_Mo_45 (by decide) d_Mo_scan_59 rfl rfl rfl ?_
  refine lv_icmp_lt (tgt := 69) hx hb d_Mo_scan_62 rfl (fun hz => absurd hz (by decide)) (fun _ => ?_)
  refine lv_iconst (v := 0) hx hb d_Mo_scan_65 (by decide) ?_
  refine lv_goto (tgt := 103) hx hb d_Mo_scan_66 rfl ?_
  refine Wd.put hx hb hts hown hK hW 0 11 in_Mo t_Mo_ok n_Mo w_fl_Mo_71 (by decide) d_Mo_scan_103 rfl rfl rfl rfl rfl (Nat.le_of_ble_eq_true rfl) (fun H locs hW => ?_)
  have hW : Wd G A s.heap [(h0, .inr (1, [.int mcd, .int 0, .ref mtx, .int mpl, .int mth, .int mln, .ref msc, .int mfr, .ref mdr, .int mcm, .int mop, .int 0, .int 0, .int 0, .int 0, .ref mis, .ref mip, .ref msd, .ref mrg, .int mmn, .ref mou])), (mtx, .inl (G.2 2, 120, .inl f))] H locs := hW
  refine lv_aload_n hx hb d_Mo_scan_106 rfl (lv_at hl 1 rfl) ?_
  refine Wd.get hx hb hts hown hK hW 0 11 in_Mo w_fl_Mo_71 (by decide) d_Mo_scan_107 rfl rfl rfl ?_
  refine lv_iconst (v := 1) hx hb d_Mo_scan_110 (by decide) ?_
  refine lv_icmp_ne (tgt := 141) hx hb d_Mo_scan_111 rfl (fun _ => ?_) (fun hz => absurd hz (by decide))
  refine lv_aload_n hx hb d_Mo_scan_141 rfl (lv_at hl 1 rfl) ?_
  refine Wd.get hx hb hts hown hK hW 0 11 in_Mo w_fl_Mo_71 (by decide) d_Mo_scan_142 rfl rfl rfl ?_
  refine lv_iconst (v := 2) hx hb d_Mo_scan_145 (by decide) ?_
  refine lv_icmp_ne (tgt := 241) hx hb d_Mo_scan_146 rfl (fun _ => ?_) (fun hz => absurd hz (by decide))
  refine lv_aload_n hx hb d_Mo_scan_241 rfl (lv_at hl 1 rfl) ?_
  refine Wd.get hx hb hts hown hK hW 0 11 in_Mo w_fl_Mo_71 (by decide) d_Mo_scan_242 rfl rfl rfl ?_
  refine lv_iconst (v := 3) hx hb d_Mo_scan_245 (by decide) ?_
  refine lv_icmp_ne (tgt := 259) hx hb d_Mo_scan_246 rfl (fun _ => ?_) (fun hz => absurd hz (by decide))
  exact Ct.vret hx hb hr hnl hW (by decide) (by decide) d_Mo_scan_259 ⟨rfl, rfl⟩

abbrev rm_Mo_start0 : Room := { frames := 1, cells := 0, slots := 0, locals := 24 }
set_option maxHeartbeats 4000000 in
set_option maxRecDepth 100000 in
theorem c_Mo_start0 (l : Launch) (G : Gt) (h0 : Nat) (mcd : Int32) (mty : Int32) (mtx : Nat) (mpl : Int32) (mth : Int32) (mln : Int32) (msc : Nat) (mdr : Nat) (mcm : Int32) (mop : Int32) (mbg : Int32) (mnd : Int32) (mam : Int32) (mis : Nat) (mip : Nat) (msd : Nat) (mrg : Nat) (mmn : Int32) (mou : Nat) (fd : Nat → Int32) : Ct l G y_Mo_start b_Mo_start 2 (some .int) rm_Mo_start0 [.ref h0] [(h0, .inr (1, [.int mcd, .int mty, .ref mtx, .int mpl, .int mth, .int mln, .ref msc, .int 0, .ref mdr, .int mcm, .int mop, .int 0, .int mbg, .int mnd, .int mam, .ref mis, .ref mip, .ref msd, .ref mrg, .int mmn, .ref mou])), (mdr, .inl (G.2 0, 400, .inl fd))] 0 0 (fun v w' => v = some (.int 16) ∧ w' = [(h0, .inr (1, [.int mcd, .int mty, .ref mtx, .int mpl, .int mth, .int mln, .ref msc, .int 0, .ref mdr, .int mcm, .int mop, .int 0, .int mbg, .int mnd, .int mam, .ref mis, .ref mip, .ref msd, .ref mrg, .int mmn, .ref mou])), (mdr, .inl (G.2 0, 400, .inl (upd (upd (upd (upd (upd (upd (upd fd (((6 * (0 : Int32)) + (0 : Int32)).toNatClampNeg) (0 : Int32)) (((6 * (0 : Int32)) + (1 : Int32)).toNatClampNeg) (0 : Int32)) (((6 * (0 : Int32)) + (2 : Int32)).toNatClampNeg) (0 : Int32)) (((6 * (0 : Int32)) + (3 : Int32)).toNatClampNeg) (0 : Int32)) (((6 * (0 : Int32)) + (4 : Int32)).toNatClampNeg) (0 : Int32)) (((6 * (0 : Int32)) + (5 : Int32)).toNatClampNeg) (0 : Int32)) (((6 * (0 : Int32)) + (0 : Int32)).toNatClampNeg) (7 : Int32))))]) := by
  refine Ct.of (by decide) (Nat.le_of_ble_eq_true rfl) (fun p e s m args below meth c A ls H locs hx hb hml hr hnl hown hts hnm hK hA hl hW => ?_)
  have hl : lv_has ls 2 [(0, .ref h0)] := hl
  refine lv_iconst (v := 0) hx hb d_Mo_start_0 (by decide) ?_
  refine lv_istore_n (lv' := [(1, .int 0), (0, .ref h0)]) hx hb d_Mo_start_1 rfl hl (by decide) rfl (fun ls hl => ?_)
  refine lv_iload_n hx hb d_Mo_start_2 rfl (lv_at hl 0 rfl) ?_
  refine lv_bipush (v := 6) hx hb d_Mo_start_3 (by decide) ?_
  refine lv_icmp_ge (tgt := 20) hx hb d_Mo_start_5 rfl (fun hz => absurd hz (by decide)) (fun _ => ?_)
  refine lv_aload_n hx hb d_Mo_start_8 rfl (lv_at hl 1 rfl) ?_
  refine lv_iload_n hx hb d_Mo_start_9 rfl (lv_at hl 0 rfl) ?_
  refine lv_iconst (v := 0) hx hb d_Mo_start_10 (by decide) ?_
  refine Ct.callV (As := [.int 0, .int 0]) (rest := []) hx hb hml hown hts hK hA hl.1 hW (c_Mo_put l G h0 mcd mty mtx mpl mth mln msc (0 : Int32) mdr mcm mop (0 : Int32) mbg mnd mam mis mip msd mrg mmn mou fd (0 : Int32) (0 : Int32) (by unfold vp_in; decide)) (cwV 2 hts (good_V w_ml_Mo_77 w_im_Mo_put w_se_Mo_put w_ini_Mo w_code_Mo_put) rfl rfl rfl yd_Mo_put ⟨by decide, by decide⟩) [0, 1] (by decide) rfl (ci := 1) (r := vr_Mo) rfl rfl rfl rfl rfl (Nat.le_of_ble_eq_true rfl) d_Mo_start_11 ⟨by decide, by decide⟩ (fun v w' hp => by obtain ⟨-, rfl⟩ := hp; exact Nat.le_of_ble_eq_true rfl) (fun v w' H locs hp hW => ?_)
  obtain ⟨rfl, rfl⟩ := hp
  have hW : Wd G A s.heap [(h0, .inr (1, [.int mcd, .int mty, .ref mtx, .int mpl, .int mth, .int mln, .ref msc, .int 0, .ref mdr, .int mcm, .int mop, .int 0, .int mbg, .int mnd, .int mam, .ref mis, .ref mip, .ref msd, .ref mrg, .int mmn, .ref mou])), (mdr, .inl (G.2 0, 400, .inl (upd fd (((6 * (0 : Int32)) + (0 : Int32)).toNatClampNeg) (0 : Int32))))] H locs := hW
  refine W.eq (g2 := F0 m 14 ls []) rfl ?_
  refine lv_iinc (k := 0) (v := 1) (lv' := [(1, .int 1), (0, .ref h0)]) hx hb d_Mo_start_14 hl rfl (by decide) (by decide) rfl (fun ls hl => ?_)
  refine lv_goto (tgt := 2) hx hb d_Mo_start_17 rfl ?_
  refine lv_iload_n hx hb d_Mo_start_2 rfl (lv_at hl 0 rfl) ?_
  refine lv_bipush (v := 6) hx hb d_Mo_start_3 (by decide) ?_
  refine lv_icmp_ge (tgt := 20) hx hb d_Mo_start_5 rfl (fun hz => absurd hz (by decide)) (fun _ => ?_)
  refine lv_aload_n hx hb d_Mo_start_8 rfl (lv_at hl 1 rfl) ?_
  refine lv_iload_n hx hb d_Mo_start_9 rfl (lv_at hl 0 rfl) ?_
  refine lv_iconst (v := 0) hx hb d_Mo_start_10 (by decide) ?_
  refine Ct.callV (As := [.int 1, .int 0]) (rest := []) hx hb hml hown hts hK hA hl.1 hW (c_Mo_put l G h0 mcd mty mtx mpl mth mln msc (0 : Int32) mdr mcm mop (0 : Int32) mbg mnd mam mis mip msd mrg mmn mou (upd fd (((6 * (0 : Int32)) + (0 : Int32)).toNatClampNeg) (0 : Int32)) (1 : Int32) (0 : Int32) (by unfold vp_in; decide)) (cwV 2 hts (good_V w_ml_Mo_77 w_im_Mo_put w_se_Mo_put w_ini_Mo w_code_Mo_put) rfl rfl rfl yd_Mo_put ⟨by decide, by decide⟩) [0, 1] (by decide) rfl (ci := 1) (r := vr_Mo) rfl rfl rfl rfl rfl (Nat.le_of_ble_eq_true rfl) d_Mo_start_11 ⟨by decide, by decide⟩ (fun v w' hp => by obtain ⟨-, rfl⟩ := hp; exact Nat.le_of_ble_eq_true rfl) (fun v w' H locs hp hW => ?_)
  obtain ⟨rfl, rfl⟩ := hp
  have hW : Wd G A s.heap [(h0, .inr (1, [.int mcd, .int mty, .ref mtx, .int mpl, .int mth, .int mln, .ref msc, .int 0, .ref mdr, .int mcm, .int mop, .int 0, .int mbg, .int mnd, .int mam, .ref mis, .ref mip, .ref msd, .ref mrg, .int mmn, .ref mou])), (mdr, .inl (G.2 0, 400, .inl (upd (upd fd (((6 * (0 : Int32)) + (0 : Int32)).toNatClampNeg) (0 : Int32)) (((6 * (0 : Int32)) + (1 : Int32)).toNatClampNeg) (0 : Int32))))] H locs := hW
  refine W.eq (g2 := F0 m 14 ls []) rfl ?_
  refine lv_iinc (k := 0) (v := 2) (lv' := [(1, .int 2), (0, .ref h0)]) hx hb d_Mo_start_14 hl rfl (by decide) (by decide) rfl (fun ls hl => ?_)
  refine lv_goto (tgt := 2) hx hb d_Mo_start_17 rfl ?_
  refine lv_iload_n hx hb d_Mo_start_2 rfl (lv_at hl 0 rfl) ?_
  refine lv_bipush (v := 6) hx hb d_Mo_start_3 (by decide) ?_
  refine lv_icmp_ge (tgt := 20) hx hb d_Mo_start_5 rfl (fun hz => absurd hz (by decide)) (fun _ => ?_)
  refine lv_aload_n hx hb d_Mo_start_8 rfl (lv_at hl 1 rfl) ?_
  refine lv_iload_n hx hb d_Mo_start_9 rfl (lv_at hl 0 rfl) ?_
  refine lv_iconst (v := 0) hx hb d_Mo_start_10 (by decide) ?_
  refine Ct.callV (As := [.int 2, .int 0]) (rest := []) hx hb hml hown hts hK hA hl.1 hW (c_Mo_put l G h0 mcd mty mtx mpl mth mln msc (0 : Int32) mdr mcm mop (0 : Int32) mbg mnd mam mis mip msd mrg mmn mou (upd (upd fd (((6 * (0 : Int32)) + (0 : Int32)).toNatClampNeg) (0 : Int32)) (((6 * (0 : Int32)) + (1 : Int32)).toNatClampNeg) (0 : Int32)) (2 : Int32) (0 : Int32) (by unfold vp_in; decide)) (cwV 2 hts (good_V w_ml_Mo_77 w_im_Mo_put w_se_Mo_put w_ini_Mo w_code_Mo_put) rfl rfl rfl yd_Mo_put ⟨by decide, by decide⟩) [0, 1] (by decide) rfl (ci := 1) (r := vr_Mo) rfl rfl rfl rfl rfl (Nat.le_of_ble_eq_true rfl) d_Mo_start_11 ⟨by decide, by decide⟩ (fun v w' hp => by obtain ⟨-, rfl⟩ := hp; exact Nat.le_of_ble_eq_true rfl) (fun v w' H locs hp hW => ?_)
  obtain ⟨rfl, rfl⟩ := hp
  have hW : Wd G A s.heap [(h0, .inr (1, [.int mcd, .int mty, .ref mtx, .int mpl, .int mth, .int mln, .ref msc, .int 0, .ref mdr, .int mcm, .int mop, .int 0, .int mbg, .int mnd, .int mam, .ref mis, .ref mip, .ref msd, .ref mrg, .int mmn, .ref mou])), (mdr, .inl (G.2 0, 400, .inl (upd (upd (upd fd (((6 * (0 : Int32)) + (0 : Int32)).toNatClampNeg) (0 : Int32)) (((6 * (0 : Int32)) + (1 : Int32)).toNatClampNeg) (0 : Int32)) (((6 * (0 : Int32)) + (2 : Int32)).toNatClampNeg) (0 : Int32))))] H locs := hW
  refine W.eq (g2 := F0 m 14 ls []) rfl ?_
  refine lv_iinc (k := 0) (v := 3) (lv' := [(1, .int 3), (0, .ref h0)]) hx hb d_Mo_start_14 hl rfl (by decide) (by decide) rfl (fun ls hl => ?_)
  refine lv_goto (tgt := 2) hx hb d_Mo_start_17 rfl ?_
  refine lv_iload_n hx hb d_Mo_start_2 rfl (lv_at hl 0 rfl) ?_
  refine lv_bipush (v := 6) hx hb d_Mo_start_3 (by decide) ?_
  refine lv_icmp_ge (tgt := 20) hx hb d_Mo_start_5 rfl (fun hz => absurd hz (by decide)) (fun _ => ?_)
  refine lv_aload_n hx hb d_Mo_start_8 rfl (lv_at hl 1 rfl) ?_
  refine lv_iload_n hx hb d_Mo_start_9 rfl (lv_at hl 0 rfl) ?_
  refine lv_iconst (v := 0) hx hb d_Mo_start_10 (by decide) ?_
  refine Ct.callV (As := [.int 3, .int 0]) (rest := []) hx hb hml hown hts hK hA hl.1 hW (c_Mo_put l G h0 mcd mty mtx mpl mth mln msc (0 : Int32) mdr mcm mop (0 : Int32) mbg mnd mam mis mip msd mrg mmn mou (upd (upd (upd fd (((6 * (0 : Int32)) + (0 : Int32)).toNatClampNeg) (0 : Int32)) (((6 * (0 : Int32)) + (1 : Int32)).toNatClampNeg) (0 : Int32)) (((6 * (0 : Int32)) + (2 : Int32)).toNatClampNeg) (0 : Int32)) (3 : Int32) (0 : Int32) (by unfold vp_in; decide)) (cwV 2 hts (good_V w_ml_Mo_77 w_im_Mo_put w_se_Mo_put w_ini_Mo w_code_Mo_put) rfl rfl rfl yd_Mo_put ⟨by decide, by decide⟩) [0, 1] (by decide) rfl (ci := 1) (r := vr_Mo) rfl rfl rfl rfl rfl (Nat.le_of_ble_eq_true rfl) d_Mo_start_11 ⟨by decide, by decide⟩ (fun v w' hp => by obtain ⟨-, rfl⟩ := hp; exact Nat.le_of_ble_eq_true rfl) (fun v w' H locs hp hW => ?_)
  obtain ⟨rfl, rfl⟩ := hp
  have hW : Wd G A s.heap [(h0, .inr (1, [.int mcd, .int mty, .ref mtx, .int mpl, .int mth, .int mln, .ref msc, .int 0, .ref mdr, .int mcm, .int mop, .int 0, .int mbg, .int mnd, .int mam, .ref mis, .ref mip, .ref msd, .ref mrg, .int mmn, .ref mou])), (mdr, .inl (G.2 0, 400, .inl (upd (upd (upd (upd fd (((6 * (0 : Int32)) + (0 : Int32)).toNatClampNeg) (0 : Int32)) (((6 * (0 : Int32)) + (1 : Int32)).toNatClampNeg) (0 : Int32)) (((6 * (0 : Int32)) + (2 : Int32)).toNatClampNeg) (0 : Int32)) (((6 * (0 : Int32)) + (3 : Int32)).toNatClampNeg) (0 : Int32))))] H locs := hW
  refine W.eq (g2 := F0 m 14 ls []) rfl ?_
  refine lv_iinc (k := 0) (v := 4) (lv' := [(1, .int 4), (0, .ref h0)]) hx hb d_Mo_start_14 hl rfl (by decide) (by decide) rfl (fun ls hl => ?_)
  refine lv_goto (tgt := 2) hx hb d_Mo_start_17 rfl ?_
  refine lv_iload_n hx hb d_Mo_start_2 rfl (lv_at hl 0 rfl) ?_
  refine lv_bipush (v := 6) hx hb d_Mo_start_3 (by decide) ?_
  refine lv_icmp_ge (tgt := 20) hx hb d_Mo_start_5 rfl (fun hz => absurd hz (by decide)) (fun _ => ?_)
  refine lv_aload_n hx hb d_Mo_start_8 rfl (lv_at hl 1 rfl) ?_
  refine lv_iload_n hx hb d_Mo_start_9 rfl (lv_at hl 0 rfl) ?_
  refine lv_iconst (v := 0) hx hb d_Mo_start_10 (by decide) ?_
  refine Ct.callV (As := [.int 4, .int 0]) (rest := []) hx hb hml hown hts hK hA hl.1 hW (c_Mo_put l G h0 mcd mty mtx mpl mth mln msc (0 : Int32) mdr mcm mop (0 : Int32) mbg mnd mam mis mip msd mrg mmn mou (upd (upd (upd (upd fd (((6 * (0 : Int32)) + (0 : Int32)).toNatClampNeg) (0 : Int32)) (((6 * (0 : Int32)) + (1 : Int32)).toNatClampNeg) (0 : Int32)) (((6 * (0 : Int32)) + (2 : Int32)).toNatClampNeg) (0 : Int32)) (((6 * (0 : Int32)) + (3 : Int32)).toNatClampNeg) (0 : Int32)) (4 : Int32) (0 : Int32) (by unfold vp_in; decide)) (cwV 2 hts (good_V w_ml_Mo_77 w_im_Mo_put w_se_Mo_put w_ini_Mo w_code_Mo_put) rfl rfl rfl yd_Mo_put ⟨by decide, by decide⟩) [0, 1] (by decide) rfl (ci := 1) (r := vr_Mo) rfl rfl rfl rfl rfl (Nat.le_of_ble_eq_true rfl) d_Mo_start_11 ⟨by decide, by decide⟩ (fun v w' hp => by obtain ⟨-, rfl⟩ := hp; exact Nat.le_of_ble_eq_true rfl) (fun v w' H locs hp hW => ?_)
  obtain ⟨rfl, rfl⟩ := hp
  have hW : Wd G A s.heap [(h0, .inr (1, [.int mcd, .int mty, .ref mtx, .int mpl, .int mth, .int mln, .ref msc, .int 0, .ref mdr, .int mcm, .int mop, .int 0, .int mbg, .int mnd, .int mam, .ref mis, .ref mip, .ref msd, .ref mrg, .int mmn, .ref mou])), (mdr, .inl (G.2 0, 400, .inl (upd (upd (upd (upd (upd fd (((6 * (0 : Int32)) + (0 : Int32)).toNatClampNeg) (0 : Int32)) (((6 * (0 : Int32)) + (1 : Int32)).toNatClampNeg) (0 : Int32)) (((6 * (0 : Int32)) + (2 : Int32)).toNatClampNeg) (0 : Int32)) (((6 * (0 : Int32)) + (3 : Int32)).toNatClampNeg) (0 : Int32)) (((6 * (0 : Int32)) + (4 : Int32)).toNatClampNeg) (0 : Int32))))] H locs := hW
  refine W.eq (g2 := F0 m 14 ls []) rfl ?_
  refine lv_iinc (k := 0) (v := 5) (lv' := [(1, .int 5), (0, .ref h0)]) hx hb d_Mo_start_14 hl rfl (by decide) (by decide) rfl (fun ls hl => ?_)
  refine lv_goto (tgt := 2) hx hb d_Mo_start_17 rfl ?_
  refine lv_iload_n hx hb d_Mo_start_2 rfl (lv_at hl 0 rfl) ?_
  refine lv_bipush (v := 6) hx hb d_Mo_start_3 (by decide) ?_
  refine lv_icmp_ge (tgt := 20) hx hb d_Mo_start_5 rfl (fun hz => absurd hz (by decide)) (fun _ => ?_)
  refine lv_aload_n hx hb d_Mo_start_8 rfl (lv_at hl 1 rfl) ?_
  refine lv_iload_n hx hb d_Mo_start_9 rfl (lv_at hl 0 rfl) ?_
  refine lv_iconst (v := 0) hx hb d_Mo_start_10 (by decide) ?_
  refine Ct.callV (As := [.int 5, .int 0]) (rest := []) hx hb hml hown hts hK hA hl.1 hW (c_Mo_put l G h0 mcd mty mtx mpl mth mln msc (0 : Int32) mdr mcm mop (0 : Int32) mbg mnd mam mis mip msd mrg mmn mou (upd (upd (upd (upd (upd fd (((6 * (0 : Int32)) + (0 : Int32)).toNatClampNeg) (0 : Int32)) (((6 * (0 : Int32)) + (1 : Int32)).toNatClampNeg) (0 : Int32)) (((6 * (0 : Int32)) + (2 : Int32)).toNatClampNeg) (0 : Int32)) (((6 * (0 : Int32)) + (3 : Int32)).toNatClampNeg) (0 : Int32)) (((6 * (0 : Int32)) + (4 : Int32)).toNatClampNeg) (0 : Int32)) (5 : Int32) (0 : Int32) (by unfold vp_in; decide)) (cwV 2 hts (good_V w_ml_Mo_77 w_im_Mo_put w_se_Mo_put w_ini_Mo w_code_Mo_put) rfl rfl rfl yd_Mo_put ⟨by decide, by decide⟩) [0, 1] (by decide) rfl (ci := 1) (r := vr_Mo) rfl rfl rfl rfl rfl (Nat.le_of_ble_eq_true rfl) d_Mo_start_11 ⟨by decide, by decide⟩ (fun v w' hp => by obtain ⟨-, rfl⟩ := hp; exact Nat.le_of_ble_eq_true rfl) (fun v w' H locs hp hW => ?_)
  obtain ⟨rfl, rfl⟩ := hp
  have hW : Wd G A s.heap [(h0, .inr (1, [.int mcd, .int mty, .ref mtx, .int mpl, .int mth, .int mln, .ref msc, .int 0, .ref mdr, .int mcm, .int mop, .int 0, .int mbg, .int mnd, .int mam, .ref mis, .ref mip, .ref msd, .ref mrg, .int mmn, .ref mou])), (mdr, .inl (G.2 0, 400, .inl (upd (upd (upd (upd (upd (upd fd (((6 * (0 : Int32)) + (0 : Int32)).toNatClampNeg) (0 : Int32)) (((6 * (0 : Int32)) + (1 : Int32)).toNatClampNeg) (0 : Int32)) (((6 * (0 : Int32)) + (2 : Int32)).toNatClampNeg) (0 : Int32)) (((6 * (0 : Int32)) + (3 : Int32)).toNatClampNeg) (0 : Int32)) (((6 * (0 : Int32)) + (4 : Int32)).toNatClampNeg) (0 : Int32)) (((6 * (0 : Int32)) + (5 : Int32)).toNatClampNeg) (0 : Int32))))] H locs := hW
  refine W.eq (g2 := F0 m 14 ls []) rfl ?_
  refine lv_iinc (k := 0) (v := 6) (lv' := [(1, .int 6), (0, .ref h0)]) hx hb d_Mo_start_14 hl rfl (by decide) (by decide) rfl (fun ls hl => ?_)
  refine lv_goto (tgt := 2) hx hb d_Mo_start_17 rfl ?_
  refine lv_iload_n hx hb d_Mo_start_2 rfl (lv_at hl 0 rfl) ?_
  refine lv_bipush (v := 6) hx hb d_Mo_start_3 (by decide) ?_
  refine lv_icmp_ge (tgt := 20) hx hb d_Mo_start_5 rfl (fun _ => ?_) (fun hz => absurd (by decide) hz)
  refine lv_aload_n hx hb d_Mo_start_20 rfl (lv_at hl 1 rfl) ?_
  refine Ct.callV (As := []) (rest := []) hx hb hml hown hts hK hA hl.1 hW (c_Mo_isRegister_0 l G h0 mcd mty mtx mpl mth mln msc (0 : Int32) mdr mcm mop (0 : Int32) mbg mnd mam mis mip msd mrg mmn mou (by decide)) (cwV 0 hts (good_V w_ml_Mo_81 w_im_Mo_isRegister w_se_Mo_isRegister w_ini_Mo w_code_Mo_isRegister) rfl rfl rfl yd_Mo_isRegister ⟨by decide, by decide⟩) [0] (by decide) rfl (ci := 1) (r := vr_Mo) rfl rfl rfl rfl rfl (Nat.le_of_ble_eq_true rfl) d_Mo_start_21 ⟨by decide, by decide⟩ (fun v w' hp => by obtain ⟨-, rfl⟩ := hp; exact Nat.le_of_ble_eq_true rfl) (fun v w' H locs hp hW => ?_)
  obtain ⟨rfl, rfl⟩ := hp
  have hW : Wd G A s.heap [(h0, .inr (1, [.int mcd, .int mty, .ref mtx, .int mpl, .int mth, .int mln, .ref msc, .int 0, .ref mdr, .int mcm, .int mop, .int 0, .int mbg, .int mnd, .int mam, .ref mis, .ref mip, .ref msd, .ref mrg, .int mmn, .ref mou])), (mdr, .inl (G.2 0, 400, .inl (upd (upd (upd (upd (upd (upd fd (((6 * (0 : Int32)) + (0 : Int32)).toNatClampNeg) (0 : Int32)) (((6 * (0 : Int32)) + (1 : Int32)).toNatClampNeg) (0 : Int32)) (((6 * (0 : Int32)) + (2 : Int32)).toNatClampNeg) (0 : Int32)) (((6 * (0 : Int32)) + (3 : Int32)).toNatClampNeg) (0 : Int32)) (((6 * (0 : Int32)) + (4 : Int32)).toNatClampNeg) (0 : Int32)) (((6 * (0 : Int32)) + (5 : Int32)).toNatClampNeg) (0 : Int32))))] H locs := hW
  refine W.eq (g2 := F0 m 24 ls [.int 0]) rfl ?_
  refine lv_if_eq (tgt := 46) hx hb d_Mo_start_24 rfl (fun _ => ?_) (fun hz => absurd (by decide) hz)
  refine lv_aload_n hx hb d_Mo_start_46 rfl (lv_at hl 1 rfl) ?_
  refine lv_bipush (v := 111) hx hb d_Mo_start_47 (by decide) ?_
  refine lv_bipush (v := 112) hx hb d_Mo_start_49 (by decide) ?_
  refine lv_bipush (v := 101) hx hb d_Mo_start_51 (by decide) ?_
  refine lv_bipush (v := 110) hx hb d_Mo_start_53 (by decide) ?_
  refine Ct.callV (As := [.int 111, .int 112, .int 101, .int 110]) (rest := []) hx hb hml hown hts hK hA hl.1 hW (c_Mo_isWord0 l G h0 mcd mty mtx mpl mth mln msc (0 : Int32) mdr mcm mop mbg mnd mam mis mip msd mrg mmn mou (111 : Int32) (112 : Int32) (101 : Int32) (110 : Int32) ) (cwV 4 hts (good_V w_ml_Mo_85 w_im_Mo_isWord w_se_Mo_isWord w_ini_Mo w_code_Mo_isWord) rfl rfl rfl yd_Mo_isWord ⟨by decide, by decide⟩) [0] (by decide) rfl (ci := 1) (r := vr_Mo) rfl rfl rfl rfl rfl (Nat.le_of_ble_eq_true rfl) d_Mo_start_55 ⟨by decide, by decide⟩ (fun v w' hp => by obtain ⟨-, rfl⟩ := hp; exact Nat.le_of_ble_eq_true rfl) (fun v w' H locs hp hW => ?_)
  obtain ⟨rfl, rfl⟩ := hp
  have hW : Wd G A s.heap [(h0, .inr (1, [.int mcd, .int mty, .ref mtx, .int mpl, .int mth, .int mln, .ref msc, .int 0, .ref mdr, .int mcm, .int mop, .int 0, .int mbg, .int mnd, .int mam, .ref mis, .ref mip, .ref msd, .ref mrg, .int mmn, .ref mou])), (mdr, .inl (G.2 0, 400, .inl (upd (upd (upd (upd (upd (upd fd (((6 * (0 : Int32)) + (0 : Int32)).toNatClampNeg) (0 : Int32)) (((6 * (0 : Int32)) + (1 : Int32)).toNatClampNeg) (0 : Int32)) (((6 * (0 : Int32)) + (2 : Int32)).toNatClampNeg) (0 : Int32)) (((6 * (0 : Int32)) + (3 : Int32)).toNatClampNeg) (0 : Int32)) (((6 * (0 : Int32)) + (4 : Int32)).toNatClampNeg) (0 : Int32)) (((6 * (0 : Int32)) + (5 : Int32)).toNatClampNeg) (0 : Int32))))] H locs := hW
  refine W.eq (g2 := F0 m 58 ls [.int 0]) rfl ?_
  refine lv_if_eq (tgt := 95) hx hb d_Mo_start_58 rfl (fun _ => ?_) (fun hz => absurd (by decide) hz)
  refine lv_aload_n hx hb d_Mo_start_95 rfl (lv_at hl 1 rfl) ?_
  refine lv_bipush (v := 115) hx hb d_Mo_start_96 (by decide) ?_
  refine lv_bipush (v := 111) hx hb d_Mo_start_98 (by decide) ?_
  refine lv_bipush (v := 114) hx hb d_Mo_start_100 (by decide) ?_
  refine lv_bipush (v := 116) hx hb d_Mo_start_102 (by decide) ?_
  refine Ct.callV (As := [.int 115, .int 111, .int 114, .int 116]) (rest := []) hx hb hml hown hts hK hA hl.1 hW (c_Mo_isWord0 l G h0 mcd mty mtx mpl mth mln msc (0 : Int32) mdr mcm mop mbg mnd mam mis mip msd mrg mmn mou (115 : Int32) (111 : Int32) (114 : Int32) (116 : Int32) ) (cwV 4 hts (good_V w_ml_Mo_85 w_im_Mo_isWord w_se_Mo_isWord w_ini_Mo w_code_Mo_isWord) rfl rfl rfl yd_Mo_isWord ⟨by decide, by decide⟩) [0] (by decide) rfl (ci := 1) (r := vr_Mo) rfl rfl rfl rfl rfl (Nat.le_of_ble_eq_true rfl) d_Mo_start_104 ⟨by decide, by decide⟩ (fun v w' hp => by obtain ⟨-, rfl⟩ := hp; exact Nat.le_of_ble_eq_true rfl) (fun v w' H locs hp hW => ?_)
  obtain ⟨rfl, rfl⟩ := hp
  have hW : Wd G A s.heap [(h0, .inr (1, [.int mcd, .int mty, .ref mtx, .int mpl, .int mth, .int mln, .ref msc, .int 0, .ref mdr, .int mcm, .int mop, .int 0, .int mbg, .int mnd, .int mam, .ref mis, .ref mip, .ref msd, .ref mrg, .int mmn, .ref mou])), (mdr, .inl (G.2 0, 400, .inl (upd (upd (upd (upd (upd (upd fd (((6 * (0 : Int32)) + (0 : Int32)).toNatClampNeg) (0 : Int32)) (((6 * (0 : Int32)) + (1 : Int32)).toNatClampNeg) (0 : Int32)) (((6 * (0 : Int32)) + (2 : Int32)).toNatClampNeg) (0 : Int32)) (((6 * (0 : Int32)) + (3 : Int32)).toNatClampNeg) (0 : Int32)) (((6 * (0 : Int32)) + (4 : Int32)).toNatClampNeg) (0 : Int32)) (((6 * (0 : Int32)) + (5 : Int32)).toNatClampNeg) (0 : Int32))))] H locs := hW
  refine W.eq (g2 := F0 m 107 ls [.int 0]) rfl ?_
  refine lv_istore_n (lv' := [(1, .int 0), (0, .ref h0)]) hx hb d_Mo_start_107 rfl hl (by decide) rfl (fun ls hl => ?_)
  refine lv_aload_n hx hb d_Mo_start_108 rfl (lv_at hl 1 rfl) ?_
  refine lv_iconst (v := 0) hx hb d_Mo_start_109 (by decide) ?_
  refine lv_iload_n hx hb d_Mo_start_110 rfl (lv_at hl 0 rfl) ?_
  refine lv_if_eq (tgt := 119) hx hb d_Mo_start_111 rfl (fun _ => ?_) (fun hz => absurd (by decide) hz)
  refine lv_bipush (v := 7) hx hb d_Mo_start_119 (by decide) ?_
  refine Ct.callV (As := [.int 0, .int 7]) (rest := []) hx hb hml hown hts hK hA hl.1 hW (c_Mo_put l G h0 mcd mty mtx mpl mth mln msc (0 : Int32) mdr mcm mop (0 : Int32) mbg mnd mam mis mip msd mrg mmn mou (upd (upd (upd (upd (upd (upd fd (((6 * (0 : Int32)) + (0 : Int32)).toNatClampNeg) (0 : Int32)) (((6 * (0 : Int32)) + (1 : Int32)).toNatClampNeg) (0 : Int32)) (((6 * (0 : Int32)) + (2 : Int32)).toNatClampNeg) (0 : Int32)) (((6 * (0 : Int32)) + (3 : Int32)).toNatClampNeg) (0 : Int32)) (((6 * (0 : Int32)) + (4 : Int32)).toNatClampNeg) (0 : Int32)) (((6 * (0 : Int32)) + (5 : Int32)).toNatClampNeg) (0 : Int32)) (0 : Int32) (7 : Int32) (by unfold vp_in; decide)) (cwV 2 hts (good_V w_ml_Mo_77 w_im_Mo_put w_se_Mo_put w_ini_Mo w_code_Mo_put) rfl rfl rfl yd_Mo_put ⟨by decide, by decide⟩) [0, 1] (by decide) rfl (ci := 1) (r := vr_Mo) rfl rfl rfl rfl rfl (Nat.le_of_ble_eq_true rfl) d_Mo_start_121 ⟨by decide, by decide⟩ (fun v w' hp => by obtain ⟨-, rfl⟩ := hp; exact Nat.le_of_ble_eq_true rfl) (fun v w' H locs hp hW => ?_)
  obtain ⟨rfl, rfl⟩ := hp
  have hW : Wd G A s.heap [(h0, .inr (1, [.int mcd, .int mty, .ref mtx, .int mpl, .int mth, .int mln, .ref msc, .int 0, .ref mdr, .int mcm, .int mop, .int 0, .int mbg, .int mnd, .int mam, .ref mis, .ref mip, .ref msd, .ref mrg, .int mmn, .ref mou])), (mdr, .inl (G.2 0, 400, .inl (upd (upd (upd (upd (upd (upd (upd fd (((6 * (0 : Int32)) + (0 : Int32)).toNatClampNeg) (0 : Int32)) (((6 * (0 : Int32)) + (1 : Int32)).toNatClampNeg) (0 : Int32)) (((6 * (0 : Int32)) + (2 : Int32)).toNatClampNeg) (0 : Int32)) (((6 * (0 : Int32)) + (3 : Int32)).toNatClampNeg) (0 : Int32)) (((6 * (0 : Int32)) + (4 : Int32)).toNatClampNeg) (0 : Int32)) (((6 * (0 : Int32)) + (5 : Int32)).toNatClampNeg) (0 : Int32)) (((6 * (0 : Int32)) + (0 : Int32)).toNatClampNeg) (7 : Int32))))] H locs := hW
  refine W.eq (g2 := F0 m 124 ls []) rfl ?_
  refine lv_iload_n hx hb d_Mo_start_124 rfl (lv_at hl 0 rfl) ?_
  refine lv_if_ne (tgt := 143) hx hb d_Mo_start_125 rfl (fun hz => absurd (by decide) hz) (fun _ => ?_)
  refine lv_aload_n hx hb d_Mo_start_128 rfl (lv_at hl 1 rfl) ?_
  refine lv_bipush (v := 115) hx hb d_Mo_start_129 (by decide) ?_
  refine lv_bipush (v := 117) hx hb d_Mo_start_131 (by decide) ?_
  refine lv_bipush (v := 109) hx hb d_Mo_start_133 (by decide) ?_
  refine lv_bipush (v := 115) hx hb d_Mo_start_135 (by decide) ?_
  refine Ct.callV (As := [.int 115, .int 117, .int 109, .int 115]) (rest := []) hx hb hml hown hts hK hA hl.1 hW (c_Mo_isWord0 l G h0 mcd mty mtx mpl mth mln msc (0 : Int32) mdr mcm mop mbg mnd mam mis mip msd mrg mmn mou (115 : Int32) (117 : Int32) (109 : Int32) (115 : Int32) ) (cwV 4 hts (good_V w_ml_Mo_85 w_im_Mo_isWord w_se_Mo_isWord w_ini_Mo w_code_Mo_isWord) rfl rfl rfl yd_Mo_isWord ⟨by decide, by decide⟩) [0] (by decide) rfl (ci := 1) (r := vr_Mo) rfl rfl rfl rfl rfl (Nat.le_of_ble_eq_true rfl) d_Mo_start_137 ⟨by decide, by decide⟩ (fun v w' hp => by obtain ⟨-, rfl⟩ := hp; exact Nat.le_of_ble_eq_true rfl) (fun v w' H locs hp hW => ?_)
  obtain ⟨rfl, rfl⟩ := hp
  have hW : Wd G A s.heap [(h0, .inr (1, [.int mcd, .int mty, .ref mtx, .int mpl, .int mth, .int mln, .ref msc, .int 0, .ref mdr, .int mcm, .int mop, .int 0, .int mbg, .int mnd, .int mam, .ref mis, .ref mip, .ref msd, .ref mrg, .int mmn, .ref mou])), (mdr, .inl (G.2 0, 400, .inl (upd (upd (upd (upd (upd (upd (upd fd (((6 * (0 : Int32)) + (0 : Int32)).toNatClampNeg) (0 : Int32)) (((6 * (0 : Int32)) + (1 : Int32)).toNatClampNeg) (0 : Int32)) (((6 * (0 : Int32)) + (2 : Int32)).toNatClampNeg) (0 : Int32)) (((6 * (0 : Int32)) + (3 : Int32)).toNatClampNeg) (0 : Int32)) (((6 * (0 : Int32)) + (4 : Int32)).toNatClampNeg) (0 : Int32)) (((6 * (0 : Int32)) + (5 : Int32)).toNatClampNeg) (0 : Int32)) (((6 * (0 : Int32)) + (0 : Int32)).toNatClampNeg) (7 : Int32))))] H locs := hW
  refine W.eq (g2 := F0 m 140 ls [.int 0]) rfl ?_
  refine lv_if_eq (tgt := 148) hx hb d_Mo_start_140 rfl (fun _ => ?_) (fun hz => absurd (by decide) hz)
  refine lv_bipush (v := 16) hx hb d_Mo_start_148 (by decide) ?_
  exact Ct.iret hx hb hr hnl hW (by decide) (by decide) d_Mo_start_150 ⟨rfl, rfl⟩

abbrev rm_Mo_next0 : Room := { frames := 2, cells := 0, slots := 0, locals := 45 }
set_option maxHeartbeats 4000000 in
set_option maxRecDepth 100000 in
theorem c_Mo_next0 (l : Launch) (G : Gt) (h0 : Nat) (mcd : Int32) (mty : Int32) (mtx : Nat) (mpl : Int32) (mth : Int32) (mln : Int32) (msc : Nat) (mdr : Nat) (mcm : Int32) (mop : Int32) (mbg : Int32) (mnd : Int32) (mam : Int32) (mis : Nat) (mip : Nat) (msd : Nat) (mrg : Nat) (mmn : Int32) (mou : Nat) (fd : Nat → Int32) : Ct l G y_Mo_next b_Mo_next 2 (some .int) rm_Mo_next0 [.ref h0, .int 0] [(h0, .inr (1, [.int mcd, .int mty, .ref mtx, .int mpl, .int mth, .int mln, .ref msc, .int 0, .ref mdr, .int mcm, .int mop, .int 0, .int mbg, .int mnd, .int mam, .ref mis, .ref mip, .ref msd, .ref mrg, .int mmn, .ref mou])), (mdr, .inl (G.2 0, 400, .inl fd))] 0 0 (fun v w' => v = some (.int 16) ∧ w' = [(h0, .inr (1, [.int mcd, .int mty, .ref mtx, .int mpl, .int mth, .int mln, .ref msc, .int 0, .ref mdr, .int mcm, .int mop, .int 0, .int mbg, .int mnd, .int mam, .ref mis, .ref mip, .ref msd, .ref mrg, .int mmn, .ref mou])), (mdr, .inl (G.2 0, 400, .inl (upd (upd (upd (upd (upd (upd (upd fd (((6 * (0 : Int32)) + (0 : Int32)).toNatClampNeg) (0 : Int32)) (((6 * (0 : Int32)) + (1 : Int32)).toNatClampNeg) (0 : Int32)) (((6 * (0 : Int32)) + (2 : Int32)).toNatClampNeg) (0 : Int32)) (((6 * (0 : Int32)) + (3 : Int32)).toNatClampNeg) (0 : Int32)) (((6 * (0 : Int32)) + (4 : Int32)).toNatClampNeg) (0 : Int32)) (((6 * (0 : Int32)) + (5 : Int32)).toNatClampNeg) (0 : Int32)) (((6 * (0 : Int32)) + (0 : Int32)).toNatClampNeg) (7 : Int32))))]) := by
  refine Ct.of (by decide) (Nat.le_of_ble_eq_true rfl) (fun p e s m args below meth c A ls H locs hx hb hml hr hnl hown hts hnm hK hA hl hW => ?_)
  have hl : lv_has ls 2 [(0, .ref h0), (1, .int 0)] := hl
  refine lv_iload_n hx hb d_Mo_next_0 rfl (lv_at hl 1 rfl) ?_
  refine lv_tableIn (tgt := 76) hx hb d_Mo_next_1 (by decide) (by decide) rfl rfl ?_
  refine lv_aload_n hx hb d_Mo_next_76 rfl (lv_at hl 0 rfl) ?_
  refine Ct.callV (As := []) (rest := []) hx hb hml hown hts hK hA hl.1 hW (c_Mo_start0 l G h0 mcd mty mtx mpl mth mln msc mdr mcm mop mbg mnd mam mis mip msd mrg mmn mou fd ) (cwV 0 hts (good_V w_ml_Mo_106 w_im_Mo_start w_se_Mo_start w_ini_Mo w_code_Mo_start) rfl rfl rfl yd_Mo_start ⟨by decide, by decide⟩) [0, 1] (by decide) rfl (ci := 1) (r := vr_Mo) rfl rfl rfl rfl rfl (Nat.le_of_ble_eq_true rfl) d_Mo_next_77 ⟨by decide, by decide⟩ (fun v w' hp => by obtain ⟨-, rfl⟩ := hp; exact Nat.le_of_ble_eq_true rfl) (fun v w' H locs hp hW => ?_)
  obtain ⟨rfl, rfl⟩ := hp
  have hW : Wd G A s.heap [(h0, .inr (1, [.int mcd, .int mty, .ref mtx, .int mpl, .int mth, .int mln, .ref msc, .int 0, .ref mdr, .int mcm, .int mop, .int 0, .int mbg, .int mnd, .int mam, .ref mis, .ref mip, .ref msd, .ref mrg, .int mmn, .ref mou])), (mdr, .inl (G.2 0, 400, .inl (upd (upd (upd (upd (upd (upd (upd fd (((6 * (0 : Int32)) + (0 : Int32)).toNatClampNeg) (0 : Int32)) (((6 * (0 : Int32)) + (1 : Int32)).toNatClampNeg) (0 : Int32)) (((6 * (0 : Int32)) + (2 : Int32)).toNatClampNeg) (0 : Int32)) (((6 * (0 : Int32)) + (3 : Int32)).toNatClampNeg) (0 : Int32)) (((6 * (0 : Int32)) + (4 : Int32)).toNatClampNeg) (0 : Int32)) (((6 * (0 : Int32)) + (5 : Int32)).toNatClampNeg) (0 : Int32)) (((6 * (0 : Int32)) + (0 : Int32)).toNatClampNeg) (7 : Int32))))] H locs := hW
  refine W.eq (g2 := F0 m 80 ls [.int 16]) rfl ?_
  exact Ct.iret hx hb hr hnl hW (by decide) (by decide) d_Mo_next_80 ⟨rfl, rfl⟩

abbrev rm_Mo_readText0 : Room := { frames := 3, cells := 0, slots := 0, locals := 66 }
set_option maxHeartbeats 4000000 in
set_option maxRecDepth 100000 in
theorem c_Mo_readText0 (l : Launch) (G : Gt) (h0 : Nat) (mcd : Int32) (mtx : Nat) (mpl : Int32) (mth : Int32) (mln : Int32) (msc : Nat) (mfr : Int32) (mdr : Nat) (mcm : Int32) (mop : Int32) (mkd : Int32) (mbg : Int32) (mnd : Int32) (mam : Int32) (mis : Nat) (mip : Nat) (msd : Nat) (mrg : Nat) (mmn : Int32) (mou : Nat) (f : Nat → Int32) (fd : Nat → Int32) (hch : ∀ j, narrow .char (.int (f j)) = .int (f j)) : Ct l G y_Mo_readText b_Mo_readText 3 (some .int) rm_Mo_readText0 [.ref h0] [(h0, .inr (1, [.int mcd, .int 0, .ref mtx, .int mpl, .int mth, .int mln, .ref msc, .int mfr, .ref mdr, .int mcm, .int mop, .int mkd, .int mbg, .int mnd, .int mam, .ref mis, .ref mip, .ref msd, .ref mrg, .int mmn, .ref mou])), (mtx, .inl (G.2 2, 120, .inl f)), (mdr, .inl (G.2 0, 400, .inl fd))] 0 0 (fun v w' => v = some (.int 0) ∧ w' = [(h0, .inr (1, [.int mcd, .int 0, .ref mtx, .int mpl, .int mth, .int mln, .ref msc, .int 0, .ref mdr, .int 0, .int 0, .int 0, .int 0, .int 0, .int 0, .ref mis, .ref mip, .ref msd, .ref mrg, .int mmn, .ref mou])), (mtx, .inl (G.2 2, 120, .inl f)), (mdr, .inl (G.2 0, 400, .inl (upd (upd (upd (upd (upd (upd (upd fd (((6 * (0 : Int32)) + (0 : Int32)).toNatClampNeg) (0 : Int32)) (((6 * (0 : Int32)) + (1 : Int32)).toNatClampNeg) (0 : Int32)) (((6 * (0 : Int32)) + (2 : Int32)).toNatClampNeg) (0 : Int32)) (((6 * (0 : Int32)) + (3 : Int32)).toNatClampNeg) (0 : Int32)) (((6 * (0 : Int32)) + (4 : Int32)).toNatClampNeg) (0 : Int32)) (((6 * (0 : Int32)) + (5 : Int32)).toNatClampNeg) (0 : Int32)) (((6 * (0 : Int32)) + (0 : Int32)).toNatClampNeg) (7 : Int32))))]) := by
  refine Ct.of (by decide) (Nat.le_of_ble_eq_true rfl) (fun p e s m args below meth c A ls H locs hx hb hml hr hnl hown hts hnm hK hA hl hW => ?_)
  have hl : lv_has ls 3 [(0, .ref h0)] := hl
  refine lv_aload_n hx hb d_Mo_readText_0 rfl (lv_at hl 0 rfl) ?_
  refine lv_iconst (v := 0) hx hb d_Mo_readText_1 (by decide) ?_
  refine Wd.put hx hb hts hown hK hW 0 7 in_Mo t_Mo_ok n_Mo w_fl_Mo_74 (by decide) d_Mo_readText_2 rfl rfl rfl rfl rfl (Nat.le_of_ble_eq_true rfl) (fun H locs hW => ?_)
  have hW : Wd G A s.heap [(h0, .inr (1, [.int mcd, .int 0, .ref mtx, .int mpl, .int mth, .int mln, .ref msc, .int 0, .ref mdr, .int mcm, .int mop, .int mkd, .int mbg, .int mnd, .int mam, .ref mis, .ref mip, .ref msd, .ref mrg, .int mmn, .ref mou])), (mtx, .inl (G.2 2, 120, .inl f)), (mdr, .inl (G.2 0, 400, .inl fd))] H locs := hW
  refine lv_aload_n hx hb d_Mo_readText_5 rfl (lv_at hl 0 rfl) ?_
  refine lv_iconst (v := 0) hx hb d_Mo_readText_6 (by decide) ?_
  refine Wd.put hx hb hts hown hK hW 0 9 in_Mo t_Mo_ok n_Mo w_fl_Mo_95 (by decide) d_Mo_readText_7 rfl rfl rfl rfl rfl (Nat.le_of_ble_eq_true rfl) (fun H locs hW => ?_)
  have hW : Wd G A s.heap [(h0, .inr (1, [.int mcd, .int 0, .ref mtx, .int mpl, .int mth, .int mln, .ref msc, .int 0, .ref mdr, .int 0, .int mop, .int mkd, .int mbg, .int mnd, .int mam, .ref mis, .ref mip, .ref msd, .ref mrg, .int mmn, .ref mou])), (mtx, .inl (G.2 2, 120, .inl f)), (mdr, .inl (G.2 0, 400, .inl fd))] H locs := hW
  refine lv_aload_n hx hb d_Mo_readText_10 rfl (lv_at hl 0 rfl) ?_
  refine lv_iconst (v := 0) hx hb d_Mo_readText_11 (by decide) ?_
  refine Wd.put hx hb hts hown hK hW 0 10 in_Mo t_Mo_ok n_Mo w_fl_Mo_89 (by decide) d_Mo_readText_12 rfl rfl rfl rfl rfl (Nat.le_of_ble_eq_true rfl) (fun H locs hW => ?_)
  have hW : Wd G A s.heap [(h0, .inr (1, [.int mcd, .int 0, .ref mtx, .int mpl, .int mth, .int mln, .ref msc, .int 0, .ref mdr, .int 0, .int 0, .int mkd, .int mbg, .int mnd, .int mam, .ref mis, .ref mip, .ref msd, .ref mrg, .int mmn, .ref mou])), (mtx, .inl (G.2 2, 120, .inl f)), (mdr, .inl (G.2 0, 400, .inl fd))] H locs := hW
  refine lv_iconst (v := 0) hx hb d_Mo_readText_15 (by decide) ?_
  refine lv_istore_n (lv' := [(1, .int 0), (0, .ref h0)]) hx hb d_Mo_readText_16 rfl hl (by decide) rfl (fun ls hl => ?_)
  refine lv_iconst (v := 0) hx hb d_Mo_readText_17 (by decide) ?_
  refine lv_istore_n (lv' := [(2, .int 0), (1, .int 0), (0, .ref h0)]) hx hb d_Mo_readText_18 rfl hl (by decide) rfl (fun ls hl => ?_)
  refine lv_aload_n hx hb d_Mo_readText_19 rfl (lv_at hl 2 rfl) ?_
  refine lv_iload_n hx hb d_Mo_readText_20 rfl (lv_at hl 0 rfl) ?_
  refine Ct.callV (As := [.int 0]) (rest := []) hx hb hml hown hts hK hA hl.1 hW (c_Mo_scan0 l G h0 mcd mtx mpl mth mln msc (0 : Int32) mdr (0 : Int32) (0 : Int32) mkd mbg mnd mam mis mip msd mrg mmn mou f (by first | assumption | omega | decide)) (cwV 1 hts (good_V w_ml_Mo_126 w_im_Mo_scan w_se_Mo_scan w_ini_Mo w_code_Mo_scan) rfl rfl rfl yd_Mo_scan ⟨by decide, by decide⟩) [0, 1] (by decide) rfl (ci := 1) (r := vr_Mo) rfl rfl rfl rfl rfl (Nat.le_of_ble_eq_true rfl) d_Mo_readText_21 ⟨by decide, by decide⟩ (fun v w' hp => by obtain ⟨-, rfl⟩ := hp; exact Nat.le_of_ble_eq_true rfl) (fun v w' H locs hp hW => ?_)
  obtain ⟨rfl, rfl⟩ := hp
  have hW : Wd G A s.heap [(h0, .inr (1, [.int mcd, .int 0, .ref mtx, .int mpl, .int mth, .int mln, .ref msc, .int 0, .ref mdr, .int 0, .int 0, .int 0, .int 0, .int 0, .int 0, .ref mis, .ref mip, .ref msd, .ref mrg, .int mmn, .ref mou])), (mtx, .inl (G.2 2, 120, .inl f)), (mdr, .inl (G.2 0, 400, .inl fd))] H locs := hW
  refine W.eq (g2 := F0 m 24 ls []) rfl ?_
  refine lv_aload_n hx hb d_Mo_readText_24 rfl (lv_at hl 2 rfl) ?_
  refine Wd.get hx hb hts hown hK hW 0 11 in_Mo w_fl_Mo_71 (by decide) d_Mo_readText_25 rfl rfl rfl ?_
  refine lv_iconst (v := 4) hx hb d_Mo_readText_28 (by decide) ?_
  refine lv_icmp_ne (tgt := 37) hx hb d_Mo_readText_29 rfl (fun _ => ?_) (fun hz => absurd hz (by decide))
  refine lv_aload_n hx hb d_Mo_readText_37 rfl (lv_at hl 2 rfl) ?_
  refine lv_iload_n hx hb d_Mo_readText_38 rfl (lv_at hl 1 rfl) ?_
  refine Ct.callV (As := [.int 0]) (rest := []) hx hb hml hown hts hK hA hl.1 hW (c_Mo_next0 l G h0 mcd (0 : Int32) mtx mpl mth mln msc mdr (0 : Int32) (0 : Int32) (0 : Int32) (0 : Int32) (0 : Int32) mis mip msd mrg mmn mou fd ) (cwV 1 hts (good_V w_ml_Mo_130 w_im_Mo_next w_se_Mo_next w_ini_Mo w_code_Mo_next) rfl rfl rfl yd_Mo_next ⟨by decide, by decide⟩) [0, 2] (by decide) rfl (ci := 1) (r := vr_Mo) rfl rfl rfl rfl rfl (Nat.le_of_ble_eq_true rfl) d_Mo_readText_39 ⟨by decide, by decide⟩ (fun v w' hp => by obtain ⟨-, rfl⟩ := hp; exact Nat.le_of_ble_eq_true rfl) (fun v w' H locs hp hW => ?_)
  obtain ⟨rfl, rfl⟩ := hp
  have hW : Wd G A s.heap [(h0, .inr (1, [.int mcd, .int 0, .ref mtx, .int mpl, .int mth, .int mln, .ref msc, .int 0, .ref mdr, .int 0, .int 0, .int 0, .int 0, .int 0, .int 0, .ref mis, .ref mip, .ref msd, .ref mrg, .int mmn, .ref mou])), (mtx, .inl (G.2 2, 120, .inl f)), (mdr, .inl (G.2 0, 400, .inl (upd (upd (upd (upd (upd (upd (upd fd (((6 * (0 : Int32)) + (0 : Int32)).toNatClampNeg) (0 : Int32)) (((6 * (0 : Int32)) + (1 : Int32)).toNatClampNeg) (0 : Int32)) (((6 * (0 : Int32)) + (2 : Int32)).toNatClampNeg) (0 : Int32)) (((6 * (0 : Int32)) + (3 : Int32)).toNatClampNeg) (0 : Int32)) (((6 * (0 : Int32)) + (4 : Int32)).toNatClampNeg) (0 : Int32)) (((6 * (0 : Int32)) + (5 : Int32)).toNatClampNeg) (0 : Int32)) (((6 * (0 : Int32)) + (0 : Int32)).toNatClampNeg) (7 : Int32))))] H locs := hW
  refine W.eq (g2 := F0 m 42 ls [.int 16]) rfl ?_
  refine lv_istore_n (lv' := [(1, .int 16), (2, .int 0), (0, .ref h0)]) hx hb d_Mo_readText_42 rfl hl (by decide) rfl (fun ls hl => ?_)
  refine lv_iload_n hx hb d_Mo_readText_43 rfl (lv_at hl 0 rfl) ?_
  refine lv_bipush (v := 16) hx hb d_Mo_readText_44 (by decide) ?_
  refine lv_icmp_ne (tgt := 68) hx hb d_Mo_readText_46 rfl (fun hz => absurd (by decide) hz) (fun _ => ?_)
  refine lv_aload_n hx hb d_Mo_readText_49 rfl (lv_at hl 2 rfl) ?_
  refine Wd.get hx hb hts hown hK hW 0 11 in_Mo w_fl_Mo_71 (by decide) d_Mo_readText_50 rfl rfl rfl ?_
  refine lv_if_ne (tgt := 63) hx hb d_Mo_readText_53 rfl (fun hz => absurd (by decide) hz) (fun _ => ?_)
  refine lv_aload_n hx hb d_Mo_readText_56 rfl (lv_at hl 2 rfl) ?_
  refine Wd.get hx hb hts hown hK hW 0 1 in_Mo w_fl_Mo_45 (by decide) d_Mo_readText_57 rfl rfl rfl ?_
  refine lv_goto (tgt := 67) hx hb d_Mo_readText_60 rfl ?_
  exact Ct.iret hx hb hr hnl hW (by decide) (by decide) d_Mo_readText_67 ⟨rfl, rfl⟩

abbrev rm_Mo_compile0 : Room := { frames := 4, cells := 0, slots := 0, locals := 88 }
set_option maxHeartbeats 4000000 in
set_option maxRecDepth 100000 in
theorem c_Mo_compile0 (l : Launch) (G : Gt) (h0 : Nat) (mcd : Int32) (mtx : Nat) (mpl : Int32) (mth : Int32) (mln : Int32) (msc : Nat) (mfr : Int32) (mdr : Nat) (mcm : Int32) (mop : Int32) (mkd : Int32) (mbg : Int32) (mnd : Int32) (mam : Int32) (mis : Nat) (mip : Nat) (msd : Nat) (mrg : Nat) (mmn : Int32) (mou : Nat) (f : Nat → Int32) (fd : Nat → Int32) (hch : ∀ j, narrow .char (.int (f j)) = .int (f j)) : Ct l G y_Mo_compile b_Mo_compile 2 (some .int) rm_Mo_compile0 [.ref h0] [(h0, .inr (1, [.int mcd, .int 0, .ref mtx, .int mpl, .int mth, .int mln, .ref msc, .int mfr, .ref mdr, .int mcm, .int mop, .int mkd, .int mbg, .int mnd, .int mam, .ref mis, .ref mip, .ref msd, .ref mrg, .int mmn, .ref mou])), (mtx, .inl (G.2 2, 120, .inl f)), (mdr, .inl (G.2 0, 400, .inl fd))] 0 0 (fun v w' => v = some (.int 0) ∧ w' = [(h0, .inr (1, [.int 1, .int 0, .ref mtx, .int 0, .int mth, .int mln, .ref msc, .int 0, .ref mdr, .int 0, .int 0, .int 0, .int 0, .int 0, .int 0, .ref mis, .ref mip, .ref msd, .ref mrg, .int mmn, .ref mou])), (mtx, .inl (G.2 2, 120, .inl f)), (mdr, .inl (G.2 0, 400, .inl (upd (upd (upd (upd (upd (upd (upd fd (((6 * (0 : Int32)) + (0 : Int32)).toNatClampNeg) (0 : Int32)) (((6 * (0 : Int32)) + (1 : Int32)).toNatClampNeg) (0 : Int32)) (((6 * (0 : Int32)) + (2 : Int32)).toNatClampNeg) (0 : Int32)) (((6 * (0 : Int32)) + (3 : Int32)).toNatClampNeg) (0 : Int32)) (((6 * (0 : Int32)) + (4 : Int32)).toNatClampNeg) (0 : Int32)) (((6 * (0 : Int32)) + (5 : Int32)).toNatClampNeg) (0 : Int32)) (((6 * (0 : Int32)) + (0 : Int32)).toNatClampNeg) (7 : Int32))))]) := by
  refine Ct.of (by decide) (Nat.le_of_ble_eq_true rfl) (fun p e s m args below meth c A ls H locs hx hb hml hr hnl hown hts hnm hK hA hl hW => ?_)
  have hl : lv_has ls 2 [(0, .ref h0)] := hl
  refine lv_aload_n hx hb d_Mo_compile_0 rfl (lv_at hl 0 rfl) ?_
  refine lv_aload_n hx hb d_Mo_compile_1 rfl (lv_at hl 0 rfl) ?_
  refine Ct.callV (As := []) (rest := [.ref h0]) hx hb hml hown hts hK hA hl.1 hW (c_Mo_readText0 l G h0 mcd mtx mpl mth mln msc mfr mdr mcm mop mkd mbg mnd mam mis mip msd mrg mmn mou f fd (by first | assumption | omega | decide)) (cwV 0 hts (good_V w_ml_Mo_133 w_im_Mo_readText w_se_Mo_readText w_ini_Mo w_code_Mo_readText) rfl rfl rfl yd_Mo_readText ⟨by decide, by decide⟩) [0, 1, 2] (by decide) rfl (ci := 1) (r := vr_Mo) rfl rfl rfl rfl rfl (Nat.le_of_ble_eq_true rfl) d_Mo_compile_2 ⟨by decide, by decide⟩ (fun v w' hp => by obtain ⟨-, rfl⟩ := hp; exact Nat.le_of_ble_eq_true rfl) (fun v w' H locs hp hW => ?_)
  obtain ⟨rfl, rfl⟩ := hp
  have hW : Wd G A s.heap [(h0, .inr (1, [.int mcd, .int 0, .ref mtx, .int mpl, .int mth, .int mln, .ref msc, .int 0, .ref mdr, .int 0, .int 0, .int 0, .int 0, .int 0, .int 0, .ref mis, .ref mip, .ref msd, .ref mrg, .int mmn, .ref mou])), (mtx, .inl (G.2 2, 120, .inl f)), (mdr, .inl (G.2 0, 400, .inl (upd (upd (upd (upd (upd (upd (upd fd (((6 * (0 : Int32)) + (0 : Int32)).toNatClampNeg) (0 : Int32)) (((6 * (0 : Int32)) + (1 : Int32)).toNatClampNeg) (0 : Int32)) (((6 * (0 : Int32)) + (2 : Int32)).toNatClampNeg) (0 : Int32)) (((6 * (0 : Int32)) + (3 : Int32)).toNatClampNeg) (0 : Int32)) (((6 * (0 : Int32)) + (4 : Int32)).toNatClampNeg) (0 : Int32)) (((6 * (0 : Int32)) + (5 : Int32)).toNatClampNeg) (0 : Int32)) (((6 * (0 : Int32)) + (0 : Int32)).toNatClampNeg) (7 : Int32))))] H locs := hW
  refine W.eq (g2 := F0 m 5 ls [.int 0, .ref h0]) rfl ?_
  refine Wd.put hx hb hts hown hK hW 0 3 in_Mo t_Mo_ok n_Mo w_fl_Mo_13 (by decide) d_Mo_compile_5 rfl rfl rfl rfl rfl (Nat.le_of_ble_eq_true rfl) (fun H locs hW => ?_)
  have hW : Wd G A s.heap [(h0, .inr (1, [.int mcd, .int 0, .ref mtx, .int 0, .int mth, .int mln, .ref msc, .int 0, .ref mdr, .int 0, .int 0, .int 0, .int 0, .int 0, .int 0, .ref mis, .ref mip, .ref msd, .ref mrg, .int mmn, .ref mou])), (mtx, .inl (G.2 2, 120, .inl f)), (mdr, .inl (G.2 0, 400, .inl (upd (upd (upd (upd (upd (upd (upd fd (((6 * (0 : Int32)) + (0 : Int32)).toNatClampNeg) (0 : Int32)) (((6 * (0 : Int32)) + (1 : Int32)).toNatClampNeg) (0 : Int32)) (((6 * (0 : Int32)) + (2 : Int32)).toNatClampNeg) (0 : Int32)) (((6 * (0 : Int32)) + (3 : Int32)).toNatClampNeg) (0 : Int32)) (((6 * (0 : Int32)) + (4 : Int32)).toNatClampNeg) (0 : Int32)) (((6 * (0 : Int32)) + (5 : Int32)).toNatClampNeg) (0 : Int32)) (((6 * (0 : Int32)) + (0 : Int32)).toNatClampNeg) (7 : Int32))))] H locs := hW
  refine lv_aload_n hx hb d_Mo_compile_8 rfl (lv_at hl 0 rfl) ?_
  refine lv_aload_n hx hb d_Mo_compile_9 rfl (lv_at hl 0 rfl) ?_
  refine Wd.get hx hb hts hown hK hW 0 3 in_Mo w_fl_Mo_13 (by decide) d_Mo_compile_10 rfl rfl rfl ?_
  refine lv_if_ge (tgt := 20) hx hb d_Mo_compile_13 rfl (fun _ => ?_) (fun hz => absurd (by decide) hz)
  refine lv_iconst (v := 1) hx hb d_Mo_compile_20 (by decide) ?_
  refine Wd.put hx hb hts hown hK hW 0 0 in_Mo t_Mo_ok n_Mo w_fl_Mo_40 (by decide) d_Mo_compile_21 rfl rfl rfl rfl rfl (Nat.le_of_ble_eq_true rfl) (fun H locs hW => ?_)
  have hW : Wd G A s.heap [(h0, .inr (1, [.int 1, .int 0, .ref mtx, .int 0, .int mth, .int mln, .ref msc, .int 0, .ref mdr, .int 0, .int 0, .int 0, .int 0, .int 0, .int 0, .ref mis, .ref mip, .ref msd, .ref mrg, .int mmn, .ref mou])), (mtx, .inl (G.2 2, 120, .inl f)), (mdr, .inl (G.2 0, 400, .inl (upd (upd (upd (upd (upd (upd (upd fd (((6 * (0 : Int32)) + (0 : Int32)).toNatClampNeg) (0 : Int32)) (((6 * (0 : Int32)) + (1 : Int32)).toNatClampNeg) (0 : Int32)) (((6 * (0 : Int32)) + (2 : Int32)).toNatClampNeg) (0 : Int32)) (((6 * (0 : Int32)) + (3 : Int32)).toNatClampNeg) (0 : Int32)) (((6 * (0 : Int32)) + (4 : Int32)).toNatClampNeg) (0 : Int32)) (((6 * (0 : Int32)) + (5 : Int32)).toNatClampNeg) (0 : Int32)) (((6 * (0 : Int32)) + (0 : Int32)).toNatClampNeg) (7 : Int32))))] H locs := hW
  refine lv_aload_n hx hb d_Mo_compile_24 rfl (lv_at hl 0 rfl) ?_
  refine Wd.get hx hb hts hown hK hW 0 0 in_Mo w_fl_Mo_40 (by decide) d_Mo_compile_25 rfl rfl rfl ?_
  refine lv_if_le (tgt := 33) hx hb d_Mo_compile_28 rfl (fun hz => absurd hz (by decide)) (fun _ => ?_)
  refine lv_iconst (v := 0) hx hb d_Mo_compile_31 (by decide) ?_
  exact Ct.iret hx hb hr hnl hW (by decide) (by decide) d_Mo_compile_32 ⟨rfl, rfl⟩

abbrev rm_Mo_mayRun0 : Room := { frames := 0, cells := 0, slots := 0, locals := 0 }
set_option maxHeartbeats 4000000 in
set_option maxRecDepth 100000 in
theorem c_Mo_mayRun0 (l : Launch) (G : Gt) (h0 : Nat) (mcd : Int32) (mty : Int32) (mtx : Nat) (mpl : Int32) (msc : Nat) (mfr : Int32) (mdr : Nat) (mcm : Int32) (mop : Int32) (mkd : Int32) (mbg : Int32) (mnd : Int32) (mam : Int32) (mis : Nat) (mip : Nat) (msd : Nat) (mrg : Nat) (mmn : Int32) (mou : Nat) : Ct l G y_Mo_mayRun b_Mo_mayRun 3 (some .boolean) rm_Mo_mayRun0 [.ref h0] [(h0, .inr (1, [.int mcd, .int mty, .ref mtx, .int mpl, .int 0, .int 0, .ref msc, .int mfr, .ref mdr, .int mcm, .int mop, .int mkd, .int mbg, .int mnd, .int mam, .ref mis, .ref mip, .ref msd, .ref mrg, .int mmn, .ref mou]))] 0 0 (fun v w' => v = some (.int 0) ∧ w' = [(h0, .inr (1, [.int mcd, .int mty, .ref mtx, .int mpl, .int 0, .int 0, .ref msc, .int mfr, .ref mdr, .int mcm, .int mop, .int mkd, .int mbg, .int mnd, .int mam, .ref mis, .ref mip, .ref msd, .ref mrg, .int mmn, .ref mou]))]) := by
  refine Ct.of (by decide) (Nat.le_of_ble_eq_true rfl) (fun p e s m args below meth c A ls H locs hx hb hml hr hnl hown hts hnm hK hA hl hW => ?_)
  have hl : lv_has ls 3 [(0, .ref h0)] := hl
  refine lv_aload_n hx hb d_Mo_mayRun_0 rfl (lv_at hl 0 rfl) ?_
  refine Wd.get hx hb hts hown hK hW 0 4 in_Mo w_fl_Mo_136 (by decide) d_Mo_mayRun_1 rfl rfl rfl ?_
  refine lv_if_eq (tgt := 38) hx hb d_Mo_mayRun_4 rfl (fun _ => ?_) (fun hz => absurd (by decide) hz)
  refine lv_iconst (v := 0) hx hb d_Mo_mayRun_38 (by decide) ?_
  refine lv_istore_n (lv' := [(1, .int 0), (0, .ref h0)]) hx hb d_Mo_mayRun_39 rfl hl (by decide) rfl (fun ls hl => ?_)
  refine lv_iconst (v := 0) hx hb d_Mo_mayRun_40 (by decide) ?_
  refine lv_istore_n (lv' := [(2, .int 0), (1, .int 0), (0, .ref h0)]) hx hb d_Mo_mayRun_41 rfl hl (by decide) rfl (fun ls hl => ?_)
  refine lv_iload_n hx hb d_Mo_mayRun_42 rfl (lv_at hl 0 rfl) ?_
  refine lv_aload_n hx hb d_Mo_mayRun_43 rfl (lv_at hl 2 rfl) ?_
  refine Wd.get hx hb hts hown hK hW 0 5 in_Mo w_fl_Mo_140 (by decide) d_Mo_mayRun_44 rfl rfl rfl ?_
  refine lv_icmp_ge (tgt := 120) hx hb d_Mo_mayRun_47 rfl (fun _ => ?_) (fun hz => absurd (by decide) hz)
  refine lv_iload_n hx hb d_Mo_mayRun_120 rfl (lv_at hl 1 rfl) ?_
  exact Ct.zret hx hb hr hnl hW (by decide) (by decide) d_Mo_mayRun_121 (by decide) ⟨rfl, rfl⟩

abbrev rm_Mo_run0 : Room := { frames := 1, cells := 0, slots := 0, locals := 22 }
set_option maxHeartbeats 4000000 in
set_option maxRecDepth 100000 in
theorem c_Mo_run0 (l : Launch) (G : Gt) (h0 : Nat) (mcd : Int32) (mty : Int32) (mtx : Nat) (mpl : Int32) (msc : Nat) (mfr : Int32) (mdr : Nat) (mcm : Int32) (mop : Int32) (mkd : Int32) (mbg : Int32) (mnd : Int32) (mam : Int32) (mis : Nat) (mip : Nat) (msd : Nat) (mrg : Nat) (mmn : Int32) (mou : Nat) (x : Int32) : Ct l G y_Mo_run b_Mo_run 3 (some .int) rm_Mo_run0 [.ref h0, .int x] [(h0, .inr (1, [.int mcd, .int mty, .ref mtx, .int mpl, .int 0, .int 0, .ref msc, .int mfr, .ref mdr, .int mcm, .int mop, .int mkd, .int mbg, .int mnd, .int mam, .ref mis, .ref mip, .ref msd, .ref mrg, .int mmn, .ref mou]))] 0 0 (fun v w' => v = some (.int 0) ∧ w' = [(h0, .inr (1, [.int 1, .int mty, .ref mtx, .int mpl, .int 0, .int 0, .ref msc, .int mfr, .ref mdr, .int mcm, .int mop, .int mkd, .int mbg, .int mnd, .int mam, .ref mis, .ref mip, .ref msd, .ref mrg, .int mmn, .ref mou]))]) := by
  refine Ct.of (by decide) (Nat.le_of_ble_eq_true rfl) (fun p e s m args below meth c A ls H locs hx hb hml hr hnl hown hts hnm hK hA hl hW => ?_)
  have hl : lv_has ls 3 [(0, .ref h0), (1, .int x)] := hl
  refine lv_aload_n hx hb d_Mo_run_0 rfl (lv_at hl 0 rfl) ?_
  refine lv_aload_n hx hb d_Mo_run_1 rfl (lv_at hl 0 rfl) ?_
  refine Ct.callV (As := []) (rest := [.ref h0]) hx hb hml hown hts hK hA hl.1 hW (c_Mo_mayRun0 l G h0 mcd mty mtx mpl msc mfr mdr mcm mop mkd mbg mnd mam mis mip msd mrg mmn mou ) (cwV 0 hts (good_V w_ml_Mo_165 w_im_Mo_mayRun w_se_Mo_mayRun w_ini_Mo w_code_Mo_mayRun) rfl rfl rfl yd_Mo_mayRun ⟨by decide, by decide⟩) [0] (by decide) rfl (ci := 1) (r := vr_Mo) rfl rfl rfl rfl rfl (Nat.le_of_ble_eq_true rfl) d_Mo_run_2 ⟨by decide, by decide⟩ (fun v w' hp => by obtain ⟨-, rfl⟩ := hp; exact Nat.le_of_ble_eq_true rfl) (fun v w' H locs hp hW => ?_)
  obtain ⟨rfl, rfl⟩ := hp
  have hW : Wd G A s.heap [(h0, .inr (1, [.int mcd, .int mty, .ref mtx, .int mpl, .int 0, .int 0, .ref msc, .int mfr, .ref mdr, .int mcm, .int mop, .int mkd, .int mbg, .int mnd, .int mam, .ref mis, .ref mip, .ref msd, .ref mrg, .int mmn, .ref mou]))] H locs := hW
  refine W.eq (g2 := F0 m 5 ls [.int 0, .ref h0]) rfl ?_
  refine lv_if_eq (tgt := 12) hx hb d_Mo_run_5 rfl (fun _ => ?_) (fun hz => absurd (by decide) hz)
  refine lv_iconst (v := 1) hx hb d_Mo_run_12 (by decide) ?_
  refine Wd.put hx hb hts hown hK hW 0 0 in_Mo t_Mo_ok n_Mo w_fl_Mo_40 (by decide) d_Mo_run_13 rfl rfl rfl rfl rfl (Nat.le_of_ble_eq_true rfl) (fun H locs hW => ?_)
  have hW : Wd G A s.heap [(h0, .inr (1, [.int 1, .int mty, .ref mtx, .int mpl, .int 0, .int 0, .ref msc, .int mfr, .ref mdr, .int mcm, .int mop, .int mkd, .int mbg, .int mnd, .int mam, .ref mis, .ref mip, .ref msd, .ref mrg, .int mmn, .ref mou]))] H locs := hW
  refine lv_aload_n hx hb d_Mo_run_16 rfl (lv_at hl 0 rfl) ?_
  refine Wd.get hx hb hts hown hK hW 0 0 in_Mo w_fl_Mo_40 (by decide) d_Mo_run_17 rfl rfl rfl ?_
  refine lv_if_le (tgt := 25) hx hb d_Mo_run_20 rfl (fun hz => absurd hz (by decide)) (fun _ => ?_)
  refine lv_iconst (v := 0) hx hb d_Mo_run_23 (by decide) ?_
  exact Ct.iret hx hb hr hnl hW (by decide) (by decide) d_Mo_run_24 ⟨rfl, rfl⟩

