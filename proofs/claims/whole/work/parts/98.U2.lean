/-! the reference compiles -/
theorem mRG_fr {f : Nat → Int32} {L : Nat} (hL : L ≤ 120) : ∀ (u pp : Nat) (st : Int32) (fd : Nat → Int32) (fr : Nat) (cm op : Int32), pp ≤ L → mInv st fr pp → ∃ n, n ≤ 60 ∧ (mRG f L u pp st fd fr cm op).2.2.1 = nI n
  | 0, pp, st, fd, fr, cm, op, h0, h1 => ⟨fr, mInv_60 h1 (by omega), rfl⟩
  | u + 1, pp, st, fd, fr, cm, op, h0, h1 => by
    have h60 := mInv_60 h1 (by omega)
    have hs := mSc_ok (f := f) hL h0
    have hN : ∃ n, n ≤ 60 ∧ (mNxt f (mSc f L pp).1 (mSc f L pp).2.1 (mSc f L pp).2.2.1 (mSc f L pp).2.2.2 fd fr cm op st).2.2.1 = nI n := by
      rcases mNxt_fr (f := f) (mkd := (mSc f L pp).1) (b := (mSc f L pp).2.1) (ee := (mSc f L pp).2.2.1) (mam := (mSc f L pp).2.2.2) (fd := fd) (fr := fr) (mcm := cm) (mop := op) (y1 := st) with ⟨e1, e2⟩ | ⟨e1, e2, e3⟩
      · exact ⟨fr, h60, e1⟩
      · refine ⟨fr + 1, ?_, by rw [e1, nI_succ]⟩
        unfold mInv at h1
        rw [if_neg e2] at h1
        omega
    rw [mRG_s (by omega)]
    split
    · exact ⟨fr, h60, rfl⟩
    · next a1 =>
      split
      · exact hN
      · split
        · exact hN
        · next a3 =>
          have hlt := hs.2.2.2.2.1 a3 a1
          exact mRG_fr hL _ _ _ _ _ _ _ hs.2.2.1 (mInv_nx h1 (by omega) hs.1 hlt a3).1
theorem mRG_fr0 {f : Nat → Int32} {L : Nat} {fd0 : Nat → Int32} (hL : L ≤ 120) : ∃ n, n ≤ 60 ∧ (mRG f L (L + 1) 0 0 fd0 0 0 0).2.2.1 = nI n := mRG_fr hL _ 0 0 fd0 0 0 0 (Nat.zero_le _) (Nat.le_refl _)
def cpF (n : Nat) (dr sc : Nat → Int32) : Nat → Int32 := fun j => if j < n then dr j else sc j
theorem cpF_s (n : Nat) (dr sc : Nat → Int32) (hn : n < 2 ^ 31) : upd (cpF n dr sc) (nI n).toNatClampNeg (dr (nI n).toNatClampNeg) = cpF (n + 1) dr sc := by
  funext j
  rw [nI_clamp hn]
  unfold upd cpF
  by_cases h : j = n
  · rw [if_pos h, if_pos (by omega), h]
  · rw [if_neg h]
    by_cases h2 : j < n
    · rw [if_pos h2, if_pos (by omega)]
    · rw [if_neg h2, if_neg (by omega)]
theorem cpF_0 (dr sc : Nat → Int32) : cpF 0 dr sc = sc := by
  funext j
  unfold cpF
  rw [if_neg (by omega)]

abbrev rm_Mo_compileN : Room := { frames := 5, cells := 0, slots := 0, locals := 105 }
set_option maxHeartbeats 4000000 in
set_option maxRecDepth 100000 in
theorem c_Mo_compileN (l : Launch) (G : Gt) (h0 : Nat) (mcd : Int32) (mtx : Nat) (mpl : Int32) (mth : Int32) (mln : Int32) (msc : Nat) (mfr : Int32) (mdr : Nat) (mcm : Int32) (mop : Int32) (mkd : Int32) (mbg : Int32) (mnd : Int32) (mam : Int32) (mis : Nat) (mip : Nat) (msd : Nat) (mrg : Nat) (mmn : Int32) (mou : Nat) (L : Nat) (f : Nat → Int32) (fd0 : Nat → Int32) (hL : L ≤ 120) (hch : ∀ j, narrow .char (.int (f j)) = .int (f j)) (hpl : 0 ≤ (mRG f L (L + 1) 0 0 fd0 0 0 0).1) : Ct l G y_Mo_compile b_Mo_compile 2 (some .int) rm_Mo_compileN [.ref h0] [(h0, .inr (1, [.int mcd, .int (nI L), .ref mtx, .int mpl, .int mth, .int mln, .ref msc, .int mfr, .ref mdr, .int mcm, .int mop, .int mkd, .int mbg, .int mnd, .int mam, .ref mis, .ref mip, .ref msd, .ref mrg, .int mmn, .ref mou])), (mtx, .inl (G.2 2, 120, .inl f)), (mdr, .inl (G.2 0, 400, .inl fd0))] 0 0 (fun v w' => v = some (.int 0) ∧ w' = [(h0, .inr (1, [.int 1, .int (nI L), .ref mtx, .int ((mRG f L (L + 1) 0 0 fd0 0 0 0).1), .int mth, .int mln, .ref msc, .int ((mRG f L (L + 1) 0 0 fd0 0 0 0).2.2.1), .ref mdr, .int ((mRG f L (L + 1) 0 0 fd0 0 0 0).2.2.2.1), .int ((mRG f L (L + 1) 0 0 fd0 0 0 0).2.2.2.2.1), .int ((mRG f L (L + 1) 0 0 fd0 0 0 0).2.2.2.2.2.1), .int (nI (mRG f L (L + 1) 0 0 fd0 0 0 0).2.2.2.2.2.2.1), .int (nI (mRG f L (L + 1) 0 0 fd0 0 0 0).2.2.2.2.2.2.2.1), .int ((mRG f L (L + 1) 0 0 fd0 0 0 0).2.2.2.2.2.2.2.2), .ref mis, .ref mip, .ref msd, .ref mrg, .int mmn, .ref mou])), (mtx, .inl (G.2 2, 120, .inl f)), (mdr, .inl (G.2 0, 400, .inl ((mRG f L (L + 1) 0 0 fd0 0 0 0).2.1)))]) := by
  refine Ct.of (by decide) (Nat.le_of_ble_eq_true rfl) (fun p e s m args below meth c A ls H locs hx hb hml hr hnl hown hts hnm hK hA hl hW => ?_)
  have hl : lv_has ls 2 [(0, .ref h0)] := hl
  refine lv_aload_n hx hb d_Mo_compile_0 rfl (lv_at hl 0 rfl) ?_
  refine lv_aload_n hx hb d_Mo_compile_1 rfl (lv_at hl 0 rfl) ?_
  refine Ct.callV (As := []) (rest := [.ref h0]) hx hb hml hown hts hK hA hl.1 hW (c_Mo_readText l G h0 mcd mtx mpl mth mln msc mfr mdr mcm mop mkd mbg mnd mam mis mip msd mrg mmn mou L f fd0 hL hch) (cwV 0 hts (good_V w_ml_Mo_133 w_im_Mo_readText w_se_Mo_readText w_ini_Mo w_code_Mo_readText) rfl rfl rfl yd_Mo_readText ⟨by decide, by decide⟩) [0, 1, 2] (by decide) rfl (ci := 1) (r := vr_Mo) rfl rfl rfl rfl rfl (Nat.le_of_ble_eq_true rfl) d_Mo_compile_2 ⟨by decide, by decide⟩ (fun v w' hp => by obtain ⟨-, rfl⟩ := hp; exact Nat.le_of_ble_eq_true rfl) (fun v w' H locs hp hW => ?_)
  obtain ⟨rfl, rfl⟩ := hp
  have hW : Wd G A s.heap [(h0, .inr (1, [.int mcd, .int (nI L), .ref mtx, .int mpl, .int mth, .int mln, .ref msc, .int ((mRG f L (L + 1) 0 0 fd0 0 0 0).2.2.1), .ref mdr, .int ((mRG f L (L + 1) 0 0 fd0 0 0 0).2.2.2.1), .int ((mRG f L (L + 1) 0 0 fd0 0 0 0).2.2.2.2.1), .int ((mRG f L (L + 1) 0 0 fd0 0 0 0).2.2.2.2.2.1), .int (nI (mRG f L (L + 1) 0 0 fd0 0 0 0).2.2.2.2.2.2.1), .int (nI (mRG f L (L + 1) 0 0 fd0 0 0 0).2.2.2.2.2.2.2.1), .int ((mRG f L (L + 1) 0 0 fd0 0 0 0).2.2.2.2.2.2.2.2), .ref mis, .ref mip, .ref msd, .ref mrg, .int mmn, .ref mou])), (mtx, .inl (G.2 2, 120, .inl f)), (mdr, .inl (G.2 0, 400, .inl ((mRG f L (L + 1) 0 0 fd0 0 0 0).2.1)))] H locs := hW
  refine W.eq (g2 := F0 m 5 ls [.int ((mRG f L (L + 1) 0 0 fd0 0 0 0).1), .ref h0]) rfl ?_
  refine Wd.put hx hb hts hown hK hW 0 3 in_Mo t_Mo_ok n_Mo w_fl_Mo_13 (by decide) d_Mo_compile_5 rfl rfl rfl rfl rfl (Nat.le_of_ble_eq_true rfl) (fun H locs hW => ?_)
  have hW : Wd G A s.heap [(h0, .inr (1, [.int mcd, .int (nI L), .ref mtx, .int ((mRG f L (L + 1) 0 0 fd0 0 0 0).1), .int mth, .int mln, .ref msc, .int ((mRG f L (L + 1) 0 0 fd0 0 0 0).2.2.1), .ref mdr, .int ((mRG f L (L + 1) 0 0 fd0 0 0 0).2.2.2.1), .int ((mRG f L (L + 1) 0 0 fd0 0 0 0).2.2.2.2.1), .int ((mRG f L (L + 1) 0 0 fd0 0 0 0).2.2.2.2.2.1), .int (nI (mRG f L (L + 1) 0 0 fd0 0 0 0).2.2.2.2.2.2.1), .int (nI (mRG f L (L + 1) 0 0 fd0 0 0 0).2.2.2.2.2.2.2.1), .int ((mRG f L (L + 1) 0 0 fd0 0 0 0).2.2.2.2.2.2.2.2), .ref mis, .ref mip, .ref msd, .ref mrg, .int mmn, .ref mou])), (mtx, .inl (G.2 2, 120, .inl f)), (mdr, .inl (G.2 0, 400, .inl ((mRG f L (L + 1) 0 0 fd0 0 0 0).2.1)))] H locs := hW
  refine lv_aload_n hx hb d_Mo_compile_8 rfl (lv_at hl 0 rfl) ?_
  refine lv_aload_n hx hb d_Mo_compile_9 rfl (lv_at hl 0 rfl) ?_
  refine Wd.get hx hb hts hown hK hW 0 3 in_Mo w_fl_Mo_13 (by decide) d_Mo_compile_10 rfl rfl rfl ?_
  refine lv_if_ge (tgt := 20) hx hb d_Mo_compile_13 rfl (fun _ => ?_) (fun hz => absurd hpl hz)
  refine lv_iconst (v := 1) hx hb d_Mo_compile_20 (by decide) ?_
  refine Wd.put hx hb hts hown hK hW 0 0 in_Mo t_Mo_ok n_Mo w_fl_Mo_40 (by decide) d_Mo_compile_21 rfl rfl rfl rfl rfl (Nat.le_of_ble_eq_true rfl) (fun H locs hW => ?_)
  have hW : Wd G A s.heap [(h0, .inr (1, [.int 1, .int (nI L), .ref mtx, .int ((mRG f L (L + 1) 0 0 fd0 0 0 0).1), .int mth, .int mln, .ref msc, .int ((mRG f L (L + 1) 0 0 fd0 0 0 0).2.2.1), .ref mdr, .int ((mRG f L (L + 1) 0 0 fd0 0 0 0).2.2.2.1), .int ((mRG f L (L + 1) 0 0 fd0 0 0 0).2.2.2.2.1), .int ((mRG f L (L + 1) 0 0 fd0 0 0 0).2.2.2.2.2.1), .int (nI (mRG f L (L + 1) 0 0 fd0 0 0 0).2.2.2.2.2.2.1), .int (nI (mRG f L (L + 1) 0 0 fd0 0 0 0).2.2.2.2.2.2.2.1), .int ((mRG f L (L + 1) 0 0 fd0 0 0 0).2.2.2.2.2.2.2.2), .ref mis, .ref mip, .ref msd, .ref mrg, .int mmn, .ref mou])), (mtx, .inl (G.2 2, 120, .inl f)), (mdr, .inl (G.2 0, 400, .inl ((mRG f L (L + 1) 0 0 fd0 0 0 0).2.1)))] H locs := hW
  refine lv_aload_n hx hb d_Mo_compile_24 rfl (lv_at hl 0 rfl) ?_
  refine Wd.get hx hb hts hown hK hW 0 0 in_Mo w_fl_Mo_40 (by decide) d_Mo_compile_25 rfl rfl rfl ?_
  refine lv_if_le (tgt := 33) hx hb d_Mo_compile_28 rfl (fun hz => absurd hz (by decide)) (fun _ => ?_)
  refine lv_iconst (v := 0) hx hb d_Mo_compile_31 (by decide) ?_
  exact Ct.iret hx hb hr hnl hW (by decide) (by decide) d_Mo_compile_32 ⟨rfl, rfl⟩

abbrev rm_Mo_compileR : Room := { frames := 5, cells := 0, slots := 0, locals := 105 }
set_option maxHeartbeats 4000000 in
set_option maxRecDepth 100000 in
theorem c_Mo_compileR (l : Launch) (G : Gt) (h0 : Nat) (mcd : Int32) (mtx : Nat) (mpl : Int32) (mth : Int32) (mln : Int32) (msc : Nat) (mfr : Int32) (mdr : Nat) (mcm : Int32) (mop : Int32) (mkd : Int32) (mbg : Int32) (mnd : Int32) (mam : Int32) (mis : Nat) (mip : Nat) (msd : Nat) (mrg : Nat) (mmn : Int32) (mou : Nat) (L : Nat) (f : Nat → Int32) (fd0 : Nat → Int32) (sc : Nat → Int32) (n : Nat) (hL : L ≤ 120) (hch : ∀ j, narrow .char (.int (f j)) = .int (f j)) (hpl : ¬ 0 ≤ (mRG f L (L + 1) 0 0 fd0 0 0 0).1) (hn : (mRG f L (L + 1) 0 0 fd0 0 0 0).2.2.1 = nI n) (hn60 : n ≤ 60) : Ct l G y_Mo_compile b_Mo_compile 2 (some .int) rm_Mo_compileR [.ref h0] [(h0, .inr (1, [.int mcd, .int (nI L), .ref mtx, .int mpl, .int mth, .int mln, .ref msc, .int mfr, .ref mdr, .int mcm, .int mop, .int mkd, .int mbg, .int mnd, .int mam, .ref mis, .ref mip, .ref msd, .ref mrg, .int mmn, .ref mou])), (mtx, .inl (G.2 2, 120, .inl f)), (mdr, .inl (G.2 0, 400, .inl fd0)), (msc, .inl (G.2 0, 400, .inl sc))] 0 0 (fun v w' => v = some (.int ((mRG f L (L + 1) 0 0 fd0 0 0 0).2.2.2.1)) ∧ w' = [(h0, .inr (1, [.int 0, .int 0, .ref mtx, .int ((mRG f L (L + 1) 0 0 fd0 0 0 0).1), .int 1, .int ((mRG f L (L + 1) 0 0 fd0 0 0 0).2.2.1), .ref msc, .int ((mRG f L (L + 1) 0 0 fd0 0 0 0).2.2.1), .ref mdr, .int ((mRG f L (L + 1) 0 0 fd0 0 0 0).2.2.2.1), .int ((mRG f L (L + 1) 0 0 fd0 0 0 0).2.2.2.2.1), .int ((mRG f L (L + 1) 0 0 fd0 0 0 0).2.2.2.2.2.1), .int (nI (mRG f L (L + 1) 0 0 fd0 0 0 0).2.2.2.2.2.2.1), .int (nI (mRG f L (L + 1) 0 0 fd0 0 0 0).2.2.2.2.2.2.2.1), .int ((mRG f L (L + 1) 0 0 fd0 0 0 0).2.2.2.2.2.2.2.2), .ref mis, .ref mip, .ref msd, .ref mrg, .int mmn, .ref mou])), (mtx, .inl (G.2 2, 120, .inl f)), (mdr, .inl (G.2 0, 400, .inl ((mRG f L (L + 1) 0 0 fd0 0 0 0).2.1))), (msc, .inl (G.2 0, 400, .inl (cpF (6 * n) ((mRG f L (L + 1) 0 0 fd0 0 0 0).2.1) sc)))]) := by
  refine Ct.of (by decide) (Nat.le_of_ble_eq_true rfl) (fun p e s m args below meth c A ls H locs hx hb hml hr hnl hown hts hnm hK hA hl hW => ?_)
  have hl : lv_has ls 2 [(0, .ref h0)] := hl
  refine lv_aload_n hx hb d_Mo_compile_0 rfl (lv_at hl 0 rfl) ?_
  refine lv_aload_n hx hb d_Mo_compile_1 rfl (lv_at hl 0 rfl) ?_
  refine Ct.callV (As := []) (rest := [.ref h0]) hx hb hml hown hts hK hA hl.1 hW (c_Mo_readText l G h0 mcd mtx mpl mth mln msc mfr mdr mcm mop mkd mbg mnd mam mis mip msd mrg mmn mou L f fd0 hL hch) (cwV 0 hts (good_V w_ml_Mo_133 w_im_Mo_readText w_se_Mo_readText w_ini_Mo w_code_Mo_readText) rfl rfl rfl yd_Mo_readText ⟨by decide, by decide⟩) [0, 1, 2] (by decide) rfl (ci := 1) (r := vr_Mo) rfl rfl rfl rfl rfl (Nat.le_of_ble_eq_true rfl) d_Mo_compile_2 ⟨by decide, by decide⟩ (fun v w' hp => by obtain ⟨-, rfl⟩ := hp; exact Nat.le_of_ble_eq_true rfl) (fun v w' H locs hp hW => ?_)
  obtain ⟨rfl, rfl⟩ := hp
  have hW : Wd G A s.heap [(h0, .inr (1, [.int mcd, .int (nI L), .ref mtx, .int mpl, .int mth, .int mln, .ref msc, .int ((mRG f L (L + 1) 0 0 fd0 0 0 0).2.2.1), .ref mdr, .int ((mRG f L (L + 1) 0 0 fd0 0 0 0).2.2.2.1), .int ((mRG f L (L + 1) 0 0 fd0 0 0 0).2.2.2.2.1), .int ((mRG f L (L + 1) 0 0 fd0 0 0 0).2.2.2.2.2.1), .int (nI (mRG f L (L + 1) 0 0 fd0 0 0 0).2.2.2.2.2.2.1), .int (nI (mRG f L (L + 1) 0 0 fd0 0 0 0).2.2.2.2.2.2.2.1), .int ((mRG f L (L + 1) 0 0 fd0 0 0 0).2.2.2.2.2.2.2.2), .ref mis, .ref mip, .ref msd, .ref mrg, .int mmn, .ref mou])), (mtx, .inl (G.2 2, 120, .inl f)), (mdr, .inl (G.2 0, 400, .inl ((mRG f L (L + 1) 0 0 fd0 0 0 0).2.1))), (msc, .inl (G.2 0, 400, .inl sc))] H locs := hW
  refine W.eq (g2 := F0 m 5 ls [.int ((mRG f L (L + 1) 0 0 fd0 0 0 0).1), .ref h0]) rfl ?_
  refine Wd.put hx hb hts hown hK hW 0 3 in_Mo t_Mo_ok n_Mo w_fl_Mo_13 (by decide) d_Mo_compile_5 rfl rfl rfl rfl rfl (Nat.le_of_ble_eq_true rfl) (fun H locs hW => ?_)
  have hW : Wd G A s.heap [(h0, .inr (1, [.int mcd, .int (nI L), .ref mtx, .int ((mRG f L (L + 1) 0 0 fd0 0 0 0).1), .int mth, .int mln, .ref msc, .int ((mRG f L (L + 1) 0 0 fd0 0 0 0).2.2.1), .ref mdr, .int ((mRG f L (L + 1) 0 0 fd0 0 0 0).2.2.2.1), .int ((mRG f L (L + 1) 0 0 fd0 0 0 0).2.2.2.2.1), .int ((mRG f L (L + 1) 0 0 fd0 0 0 0).2.2.2.2.2.1), .int (nI (mRG f L (L + 1) 0 0 fd0 0 0 0).2.2.2.2.2.2.1), .int (nI (mRG f L (L + 1) 0 0 fd0 0 0 0).2.2.2.2.2.2.2.1), .int ((mRG f L (L + 1) 0 0 fd0 0 0 0).2.2.2.2.2.2.2.2), .ref mis, .ref mip, .ref msd, .ref mrg, .int mmn, .ref mou])), (mtx, .inl (G.2 2, 120, .inl f)), (mdr, .inl (G.2 0, 400, .inl ((mRG f L (L + 1) 0 0 fd0 0 0 0).2.1))), (msc, .inl (G.2 0, 400, .inl sc))] H locs := hW
  refine lv_aload_n hx hb d_Mo_compile_8 rfl (lv_at hl 0 rfl) ?_
  refine lv_aload_n hx hb d_Mo_compile_9 rfl (lv_at hl 0 rfl) ?_
  refine Wd.get hx hb hts hown hK hW 0 3 in_Mo w_fl_Mo_13 (by decide) d_Mo_compile_10 rfl rfl rfl ?_
  refine lv_if_ge (tgt := 20) hx hb d_Mo_compile_13 rfl (fun hz => absurd hz hpl) (fun _ => ?_)
  refine lv_iconst (v := 0) hx hb d_Mo_compile_16 (by decide) ?_
  refine lv_goto (tgt := 21) hx hb d_Mo_compile_17 rfl ?_
  refine Wd.put hx hb hts hown hK hW 0 0 in_Mo t_Mo_ok n_Mo w_fl_Mo_40 (by decide) d_Mo_compile_21 rfl rfl rfl rfl rfl (Nat.le_of_ble_eq_true rfl) (fun H locs hW => ?_)
  have hW : Wd G A s.heap [(h0, .inr (1, [.int 0, .int (nI L), .ref mtx, .int ((mRG f L (L + 1) 0 0 fd0 0 0 0).1), .int mth, .int mln, .ref msc, .int ((mRG f L (L + 1) 0 0 fd0 0 0 0).2.2.1), .ref mdr, .int ((mRG f L (L + 1) 0 0 fd0 0 0 0).2.2.2.1), .int ((mRG f L (L + 1) 0 0 fd0 0 0 0).2.2.2.2.1), .int ((mRG f L (L + 1) 0 0 fd0 0 0 0).2.2.2.2.2.1), .int (nI (mRG f L (L + 1) 0 0 fd0 0 0 0).2.2.2.2.2.2.1), .int (nI (mRG f L (L + 1) 0 0 fd0 0 0 0).2.2.2.2.2.2.2.1), .int ((mRG f L (L + 1) 0 0 fd0 0 0 0).2.2.2.2.2.2.2.2), .ref mis, .ref mip, .ref msd, .ref mrg, .int mmn, .ref mou])), (mtx, .inl (G.2 2, 120, .inl f)), (mdr, .inl (G.2 0, 400, .inl ((mRG f L (L + 1) 0 0 fd0 0 0 0).2.1))), (msc, .inl (G.2 0, 400, .inl sc))] H locs := hW
  refine lv_aload_n hx hb d_Mo_compile_24 rfl (lv_at hl 0 rfl) ?_
  refine Wd.get hx hb hts hown hK hW 0 0 in_Mo w_fl_Mo_40 (by decide) d_Mo_compile_25 rfl rfl rfl ?_
  refine lv_if_le (tgt := 33) hx hb d_Mo_compile_28 rfl (fun _ => ?_) (fun hz => absurd (by decide) hz)
  refine lv_aload_n hx hb d_Mo_compile_33 rfl (lv_at hl 0 rfl) ?_
  refine lv_iconst (v := 1) hx hb d_Mo_compile_34 (by decide) ?_
  refine Wd.put hx hb hts hown hK hW 0 4 in_Mo t_Mo_ok n_Mo w_fl_Mo_136 (by decide) d_Mo_compile_35 rfl rfl rfl rfl rfl (Nat.le_of_ble_eq_true rfl) (fun H locs hW => ?_)
  have hW : Wd G A s.heap [(h0, .inr (1, [.int 0, .int (nI L), .ref mtx, .int ((mRG f L (L + 1) 0 0 fd0 0 0 0).1), .int 1, .int mln, .ref msc, .int ((mRG f L (L + 1) 0 0 fd0 0 0 0).2.2.1), .ref mdr, .int ((mRG f L (L + 1) 0 0 fd0 0 0 0).2.2.2.1), .int ((mRG f L (L + 1) 0 0 fd0 0 0 0).2.2.2.2.1), .int ((mRG f L (L + 1) 0 0 fd0 0 0 0).2.2.2.2.2.1), .int (nI (mRG f L (L + 1) 0 0 fd0 0 0 0).2.2.2.2.2.2.1), .int (nI (mRG f L (L + 1) 0 0 fd0 0 0 0).2.2.2.2.2.2.2.1), .int ((mRG f L (L + 1) 0 0 fd0 0 0 0).2.2.2.2.2.2.2.2), .ref mis, .ref mip, .ref msd, .ref mrg, .int mmn, .ref mou])), (mtx, .inl (G.2 2, 120, .inl f)), (mdr, .inl (G.2 0, 400, .inl ((mRG f L (L + 1) 0 0 fd0 0 0 0).2.1))), (msc, .inl (G.2 0, 400, .inl sc))] H locs := hW
  refine lv_aload_n hx hb d_Mo_compile_38 rfl (lv_at hl 0 rfl) ?_
  refine lv_aload_n hx hb d_Mo_compile_39 rfl (lv_at hl 0 rfl) ?_
  refine Wd.get hx hb hts hown hK hW 0 7 in_Mo w_fl_Mo_74 (by decide) d_Mo_compile_40 rfl rfl rfl ?_
  refine Wd.put hx hb hts hown hK hW 0 5 in_Mo t_Mo_ok n_Mo w_fl_Mo_140 (by decide) d_Mo_compile_43 rfl rfl rfl rfl rfl (Nat.le_of_ble_eq_true rfl) (fun H locs hW => ?_)
  have hW : Wd G A s.heap [(h0, .inr (1, [.int 0, .int (nI L), .ref mtx, .int ((mRG f L (L + 1) 0 0 fd0 0 0 0).1), .int 1, .int ((mRG f L (L + 1) 0 0 fd0 0 0 0).2.2.1), .ref msc, .int ((mRG f L (L + 1) 0 0 fd0 0 0 0).2.2.1), .ref mdr, .int ((mRG f L (L + 1) 0 0 fd0 0 0 0).2.2.2.1), .int ((mRG f L (L + 1) 0 0 fd0 0 0 0).2.2.2.2.1), .int ((mRG f L (L + 1) 0 0 fd0 0 0 0).2.2.2.2.2.1), .int (nI (mRG f L (L + 1) 0 0 fd0 0 0 0).2.2.2.2.2.2.1), .int (nI (mRG f L (L + 1) 0 0 fd0 0 0 0).2.2.2.2.2.2.2.1), .int ((mRG f L (L + 1) 0 0 fd0 0 0 0).2.2.2.2.2.2.2.2), .ref mis, .ref mip, .ref msd, .ref mrg, .int mmn, .ref mou])), (mtx, .inl (G.2 2, 120, .inl f)), (mdr, .inl (G.2 0, 400, .inl ((mRG f L (L + 1) 0 0 fd0 0 0 0).2.1))), (msc, .inl (G.2 0, 400, .inl sc))] H locs := hW
  refine lv_iconst (v := 0) hx hb d_Mo_compile_46 (by decide) ?_
  refine lv_istore_n (lv' := [(1, .int 0), (0, .ref h0)]) hx hb d_Mo_compile_47 rfl hl (by decide) rfl (fun ls hl => ?_)
  have loop48 : ∀ (u : Nat) (k : Nat) (ls : Array Slot) (H : Heap) (locs : List Loc), k ≤ 6 * n → (6 * n - k) < u → lv_has ls 2 [(0, .ref h0), (1, .int (nI k))] → Wd G A s.heap [(h0, .inr (1, [.int 0, .int (nI L), .ref mtx, .int ((mRG f L (L + 1) 0 0 fd0 0 0 0).1), .int 1, .int ((mRG f L (L + 1) 0 0 fd0 0 0 0).2.2.1), .ref msc, .int ((mRG f L (L + 1) 0 0 fd0 0 0 0).2.2.1), .ref mdr, .int ((mRG f L (L + 1) 0 0 fd0 0 0 0).2.2.2.1), .int ((mRG f L (L + 1) 0 0 fd0 0 0 0).2.2.2.2.1), .int ((mRG f L (L + 1) 0 0 fd0 0 0 0).2.2.2.2.2.1), .int (nI (mRG f L (L + 1) 0 0 fd0 0 0 0).2.2.2.2.2.2.1), .int (nI (mRG f L (L + 1) 0 0 fd0 0 0 0).2.2.2.2.2.2.2.1), .int ((mRG f L (L + 1) 0 0 fd0 0 0 0).2.2.2.2.2.2.2.2), .ref mis, .ref mip, .ref msd, .ref mrg, .int mmn, .ref mou])), (mtx, .inl (G.2 2, 120, .inl f)), (mdr, .inl (G.2 0, 400, .inl ((mRG f L (L + 1) 0 0 fd0 0 0 0).2.1))), (msc, .inl (G.2 0, 400, .inl (cpF k ((mRG f L (L + 1) 0 0 fd0 0 0 0).2.1) sc)))] H locs → W p l e rm_Mo_compileR s m args below meth c H locs 0 0 (MQ below (Qcc G (fun v w' => v = some (.int ((mRG f L (L + 1) 0 0 fd0 0 0 0).2.2.2.1)) ∧ w' = [(h0, .inr (1, [.int 0, .int 0, .ref mtx, .int ((mRG f L (L + 1) 0 0 fd0 0 0 0).1), .int 1, .int ((mRG f L (L + 1) 0 0 fd0 0 0 0).2.2.1), .ref msc, .int ((mRG f L (L + 1) 0 0 fd0 0 0 0).2.2.1), .ref mdr, .int ((mRG f L (L + 1) 0 0 fd0 0 0 0).2.2.2.1), .int ((mRG f L (L + 1) 0 0 fd0 0 0 0).2.2.2.2.1), .int ((mRG f L (L + 1) 0 0 fd0 0 0 0).2.2.2.2.2.1), .int (nI (mRG f L (L + 1) 0 0 fd0 0 0 0).2.2.2.2.2.2.1), .int (nI (mRG f L (L + 1) 0 0 fd0 0 0 0).2.2.2.2.2.2.2.1), .int ((mRG f L (L + 1) 0 0 fd0 0 0 0).2.2.2.2.2.2.2.2), .ref mis, .ref mip, .ref msd, .ref mrg, .int mmn, .ref mou])), (mtx, .inl (G.2 2, 120, .inl f)), (mdr, .inl (G.2 0, 400, .inl ((mRG f L (L + 1) 0 0 fd0 0 0 0).2.1))), (msc, .inl (G.2 0, 400, .inl (cpF (6 * n) ((mRG f L (L + 1) 0 0 fd0 0 0 0).2.1) sc)))]) A) args s 0 0 A) (F0 m 48 ls []) := by
    intro u
    induction u with
    | zero => intro k ls H locs hk hu; exact absurd hu (Nat.not_lt_zero _)
    | succ u ih48 =>
      intro k ls H locs hk hu48 hl hW
      refine lv_iload_n hx hb d_Mo_compile_48 rfl (lv_at hl 1 rfl) ?_
      refine lv_bipush (v := 6) hx hb d_Mo_compile_49 (by decide) ?_
      refine lv_aload_n hx hb d_Mo_compile_51 rfl (lv_at hl 0 rfl) ?_
      refine Wd.get hx hb hts hown hK hW 0 5 in_Mo w_fl_Mo_140 (by decide) d_Mo_compile_52 rfl rfl rfl ?_
      refine lv_imul hx hb d_Mo_compile_55 ?_
      refine lv_icmp_ge (tgt := 77) hx hb d_Mo_compile_56 rfl (fun ht1 => ?_) (fun hf2 => ?_)
      · have e6 : (6 : Int32) * (mRG f L (L + 1) 0 0 fd0 0 0 0).2.2.1 = nI (6 * n) := by rw [hn]; exact (Int32.ofNat_mul 6 n).symm
        have hkn : k = 6 * n := by have q := ht1; rw [e6] at q; have := (nI_leI (a := 6 * n) (b := k) (by omega) (by omega)).mp q; omega
        refine lv_aload_n hx hb d_Mo_compile_77 rfl (lv_at hl 0 rfl) ?_
        refine lv_iconst (v := 0) hx hb d_Mo_compile_78 (by decide) ?_
        refine Wd.put hx hb hts hown hK hW 0 1 in_Mo t_Mo_ok n_Mo w_fl_Mo_45 (by decide) d_Mo_compile_79 rfl rfl rfl rfl rfl (Nat.le_of_ble_eq_true rfl) (fun H locs hW => ?_)
        have hW : Wd G A s.heap [(h0, .inr (1, [.int 0, .int 0, .ref mtx, .int ((mRG f L (L + 1) 0 0 fd0 0 0 0).1), .int 1, .int ((mRG f L (L + 1) 0 0 fd0 0 0 0).2.2.1), .ref msc, .int ((mRG f L (L + 1) 0 0 fd0 0 0 0).2.2.1), .ref mdr, .int ((mRG f L (L + 1) 0 0 fd0 0 0 0).2.2.2.1), .int ((mRG f L (L + 1) 0 0 fd0 0 0 0).2.2.2.2.1), .int ((mRG f L (L + 1) 0 0 fd0 0 0 0).2.2.2.2.2.1), .int (nI (mRG f L (L + 1) 0 0 fd0 0 0 0).2.2.2.2.2.2.1), .int (nI (mRG f L (L + 1) 0 0 fd0 0 0 0).2.2.2.2.2.2.2.1), .int ((mRG f L (L + 1) 0 0 fd0 0 0 0).2.2.2.2.2.2.2.2), .ref mis, .ref mip, .ref msd, .ref mrg, .int mmn, .ref mou])), (mtx, .inl (G.2 2, 120, .inl f)), (mdr, .inl (G.2 0, 400, .inl ((mRG f L (L + 1) 0 0 fd0 0 0 0).2.1))), (msc, .inl (G.2 0, 400, .inl (cpF k ((mRG f L (L + 1) 0 0 fd0 0 0 0).2.1) sc)))] H locs := hW
        refine lv_aload_n hx hb d_Mo_compile_82 rfl (lv_at hl 0 rfl) ?_
        refine Wd.get hx hb hts hown hK hW 0 9 in_Mo w_fl_Mo_95 (by decide) d_Mo_compile_83 rfl rfl rfl ?_
        exact Ct.iret hx hb hr hnl hW (by decide) (by decide) d_Mo_compile_86 (by subst hkn; exact ⟨rfl, rfl⟩)
      · have e6 : (6 : Int32) * (mRG f L (L + 1) 0 0 fd0 0 0 0).2.2.1 = nI (6 * n) := by rw [hn]; exact (Int32.ofNat_mul 6 n).symm
        have hkn : k < 6 * n := by apply Nat.lt_of_not_le; intro q; exact hf2 (by rw [e6]; exact nI_le q (by omega))
        refine lv_aload_n hx hb d_Mo_compile_59 rfl (lv_at hl 0 rfl) ?_
        refine Wd.get hx hb hts hown hK hW 0 6 in_Mo w_fl_Mo_17 (by decide) d_Mo_compile_60 rfl rfl rfl ?_
        refine lv_iload_n hx hb d_Mo_compile_63 rfl (lv_at hl 1 rfl) ?_
        refine lv_aload_n hx hb d_Mo_compile_64 rfl (lv_at hl 0 rfl) ?_
        refine Wd.get hx hb hts hown hK hW 0 8 in_Mo w_fl_Mo_21 (by decide) d_Mo_compile_65 rfl rfl rfl ?_
        refine lv_iload_n hx hb d_Mo_compile_68 rfl (lv_at hl 1 rfl) ?_
        refine Wd.iald hx hb hK hW 2 d_Mo_compile_69 rfl (vp_in_nI (by omega) (by omega)) ?_
        refine Wd.iast hx hb hK hW 3 d_Mo_compile_70 rfl (vp_in_nI (by omega) (by omega)) (fun H locs hW => ?_)
        have hW : Wd G A s.heap [(h0, .inr (1, [.int 0, .int (nI L), .ref mtx, .int ((mRG f L (L + 1) 0 0 fd0 0 0 0).1), .int 1, .int ((mRG f L (L + 1) 0 0 fd0 0 0 0).2.2.1), .ref msc, .int ((mRG f L (L + 1) 0 0 fd0 0 0 0).2.2.1), .ref mdr, .int ((mRG f L (L + 1) 0 0 fd0 0 0 0).2.2.2.1), .int ((mRG f L (L + 1) 0 0 fd0 0 0 0).2.2.2.2.1), .int ((mRG f L (L + 1) 0 0 fd0 0 0 0).2.2.2.2.2.1), .int (nI (mRG f L (L + 1) 0 0 fd0 0 0 0).2.2.2.2.2.2.1), .int (nI (mRG f L (L + 1) 0 0 fd0 0 0 0).2.2.2.2.2.2.2.1), .int ((mRG f L (L + 1) 0 0 fd0 0 0 0).2.2.2.2.2.2.2.2), .ref mis, .ref mip, .ref msd, .ref mrg, .int mmn, .ref mou])), (mtx, .inl (G.2 2, 120, .inl f)), (mdr, .inl (G.2 0, 400, .inl ((mRG f L (L + 1) 0 0 fd0 0 0 0).2.1))), (msc, .inl (G.2 0, 400, .inl (upd (cpF k ((mRG f L (L + 1) 0 0 fd0 0 0 0).2.1) sc) ((nI k).toNatClampNeg) (((mRG f L (L + 1) 0 0 fd0 0 0 0).2.1) ((nI k).toNatClampNeg)))))] H locs := hW
        refine lv_iinc (k := 1) (v := nI (k + 1)) (lv' := [(1, .int (nI (k + 1))), (0, .ref h0)]) hx hb d_Mo_compile_71 hl rfl (nI_succ k).symm (by decide) rfl (fun ls hl => ?_)
        refine lv_goto (tgt := 48) hx hb d_Mo_compile_74 rfl ?_
        have hW : Wd G A s.heap [(h0, .inr (1, [.int 0, .int (nI L), .ref mtx, .int ((mRG f L (L + 1) 0 0 fd0 0 0 0).1), .int 1, .int ((mRG f L (L + 1) 0 0 fd0 0 0 0).2.2.1), .ref msc, .int ((mRG f L (L + 1) 0 0 fd0 0 0 0).2.2.1), .ref mdr, .int ((mRG f L (L + 1) 0 0 fd0 0 0 0).2.2.2.1), .int ((mRG f L (L + 1) 0 0 fd0 0 0 0).2.2.2.2.1), .int ((mRG f L (L + 1) 0 0 fd0 0 0 0).2.2.2.2.2.1), .int (nI (mRG f L (L + 1) 0 0 fd0 0 0 0).2.2.2.2.2.2.1), .int (nI (mRG f L (L + 1) 0 0 fd0 0 0 0).2.2.2.2.2.2.2.1), .int ((mRG f L (L + 1) 0 0 fd0 0 0 0).2.2.2.2.2.2.2.2), .ref mis, .ref mip, .ref msd, .ref mrg, .int mmn, .ref mou])), (mtx, .inl (G.2 2, 120, .inl f)), (mdr, .inl (G.2 0, 400, .inl ((mRG f L (L + 1) 0 0 fd0 0 0 0).2.1))), (msc, .inl (G.2 0, 400, .inl (cpF (k + 1) ((mRG f L (L + 1) 0 0 fd0 0 0 0).2.1) sc)))] H locs := by
          rw [← cpF_s k _ _ (by omega)]
          exact hW
        exact ih48 (k + 1) ls H locs (by omega) (by omega) (lv_sub hl [1, 0] rfl) hW
  have hW : Wd G A s.heap [(h0, .inr (1, [.int 0, .int (nI L), .ref mtx, .int ((mRG f L (L + 1) 0 0 fd0 0 0 0).1), .int 1, .int ((mRG f L (L + 1) 0 0 fd0 0 0 0).2.2.1), .ref msc, .int ((mRG f L (L + 1) 0 0 fd0 0 0 0).2.2.1), .ref mdr, .int ((mRG f L (L + 1) 0 0 fd0 0 0 0).2.2.2.1), .int ((mRG f L (L + 1) 0 0 fd0 0 0 0).2.2.2.2.1), .int ((mRG f L (L + 1) 0 0 fd0 0 0 0).2.2.2.2.2.1), .int (nI (mRG f L (L + 1) 0 0 fd0 0 0 0).2.2.2.2.2.2.1), .int (nI (mRG f L (L + 1) 0 0 fd0 0 0 0).2.2.2.2.2.2.2.1), .int ((mRG f L (L + 1) 0 0 fd0 0 0 0).2.2.2.2.2.2.2.2), .ref mis, .ref mip, .ref msd, .ref mrg, .int mmn, .ref mou])), (mtx, .inl (G.2 2, 120, .inl f)), (mdr, .inl (G.2 0, 400, .inl ((mRG f L (L + 1) 0 0 fd0 0 0 0).2.1))), (msc, .inl (G.2 0, 400, .inl (cpF 0 ((mRG f L (L + 1) 0 0 fd0 0 0 0).2.1) sc)))] H locs := by
    rw [cpF_0]
    exact hW
  exact loop48 (_ + 1) 0 ls H locs (Nat.zero_le _) (Nat.lt_succ_self _) (lv_sub hl [1, 0] rfl) hW

