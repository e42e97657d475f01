def mSta (f : Nat → Int32) (mkd : Int32) (b : Nat) (ee : Nat) (mam : Int32) (fd : Nat → Int32) (fr : Nat) (mcm : Int32) (mop : Int32) : Int32 × (Nat → Int32) × Int32 := if (o_Mo_isRegister_r mkd b ee) = 0 then if (o_Mo_isWord_r mkd b ee f (111 : Int32) (112 : Int32) (101 : Int32) (110 : Int32)) = 0 then if (o_Mo_isWord_r mkd b ee f (115 : Int32) (111 : Int32) (114 : Int32) (116 : Int32)) = 0 then if (o_Mo_isWord_r mkd b ee f (115 : Int32) (117 : Int32) (109 : Int32) (115 : Int32)) = 0 then (16, upd (upd (upd (upd (upd (upd (upd fd (((6 * (nI fr)) + (0 : Int32)).toNatClampNeg) (0 : Int32)) (((6 * (nI fr)) + (1 : Int32)).toNatClampNeg) (0 : Int32)) (((6 * (nI fr)) + (2 : Int32)).toNatClampNeg) (0 : Int32)) (((6 * (nI fr)) + (3 : Int32)).toNatClampNeg) (0 : Int32)) (((6 * (nI fr)) + (4 : Int32)).toNatClampNeg) (0 : Int32)) (((6 * (nI fr)) + (5 : Int32)).toNatClampNeg) (0 : Int32)) (((6 * (nI fr)) + (0 : Int32)).toNatClampNeg) (7 : Int32), mop) else (12, upd (upd (upd (upd (upd (upd (upd fd (((6 * (nI fr)) + (0 : Int32)).toNatClampNeg) (0 : Int32)) (((6 * (nI fr)) + (1 : Int32)).toNatClampNeg) (0 : Int32)) (((6 * (nI fr)) + (2 : Int32)).toNatClampNeg) (0 : Int32)) (((6 * (nI fr)) + (3 : Int32)).toNatClampNeg) (0 : Int32)) (((6 * (nI fr)) + (4 : Int32)).toNatClampNeg) (0 : Int32)) (((6 * (nI fr)) + (5 : Int32)).toNatClampNeg) (0 : Int32)) (((6 * (nI fr)) + (0 : Int32)).toNatClampNeg) (7 : Int32), mop) else (12, upd (upd (upd (upd (upd (upd (upd fd (((6 * (nI fr)) + (0 : Int32)).toNatClampNeg) (0 : Int32)) (((6 * (nI fr)) + (1 : Int32)).toNatClampNeg) (0 : Int32)) (((6 * (nI fr)) + (2 : Int32)).toNatClampNeg) (0 : Int32)) (((6 * (nI fr)) + (3 : Int32)).toNatClampNeg) (0 : Int32)) (((6 * (nI fr)) + (4 : Int32)).toNatClampNeg) (0 : Int32)) (((6 * (nI fr)) + (5 : Int32)).toNatClampNeg) (0 : Int32)) (((6 * (nI fr)) + (0 : Int32)).toNatClampNeg) (6 : Int32), mop) else if (mop + 1) ≤ 16 then (14, upd (upd (upd (upd (upd (upd (upd fd (((6 * (nI fr)) + (0 : Int32)).toNatClampNeg) (0 : Int32)) (((6 * (nI fr)) + (1 : Int32)).toNatClampNeg) (0 : Int32)) (((6 * (nI fr)) + (2 : Int32)).toNatClampNeg) (0 : Int32)) (((6 * (nI fr)) + (3 : Int32)).toNatClampNeg) (0 : Int32)) (((6 * (nI fr)) + (4 : Int32)).toNatClampNeg) (0 : Int32)) (((6 * (nI fr)) + (5 : Int32)).toNatClampNeg) (0 : Int32)) (((6 * (nI fr)) + (0 : Int32)).toNatClampNeg) (8 : Int32), mop + 1) else (16, upd (upd (upd (upd (upd (upd (upd fd (((6 * (nI fr)) + (0 : Int32)).toNatClampNeg) (0 : Int32)) (((6 * (nI fr)) + (1 : Int32)).toNatClampNeg) (0 : Int32)) (((6 * (nI fr)) + (2 : Int32)).toNatClampNeg) (0 : Int32)) (((6 * (nI fr)) + (3 : Int32)).toNatClampNeg) (0 : Int32)) (((6 * (nI fr)) + (4 : Int32)).toNatClampNeg) (0 : Int32)) (((6 * (nI fr)) + (5 : Int32)).toNatClampNeg) (0 : Int32)) (((6 * (nI fr)) + (0 : Int32)).toNatClampNeg) (8 : Int32), mop + 1) else (1, upd (upd (upd (upd (upd (upd (upd fd (((6 * (nI fr)) + (0 : Int32)).toNatClampNeg) (0 : Int32)) (((6 * (nI fr)) + (1 : Int32)).toNatClampNeg) (0 : Int32)) (((6 * (nI fr)) + (2 : Int32)).toNatClampNeg) (0 : Int32)) (((6 * (nI fr)) + (3 : Int32)).toNatClampNeg) (0 : Int32)) (((6 * (nI fr)) + (4 : Int32)).toNatClampNeg) (0 : Int32)) (((6 * (nI fr)) + (5 : Int32)).toNatClampNeg) (0 : Int32)) (((6 * (nI fr)) + (1 : Int32)).toNatClampNeg) ((f ((nI b).toNatClampNeg)) - 97), mop)
abbrev rm_Mo_start : Room := { frames := 1, cells := 0, slots := 0, locals := 24 }
set_option maxHeartbeats 4000000 in
set_option maxRecDepth 100000 in
theorem c_Mo_start (l : Launch) (G : Gt) (h0 : Nat) (mcd : Int32) (mty : Int32) (mtx : Nat) (mpl : Int32) (mth : Int32) (mln : Int32) (msc : Nat) (mdr : Nat) (mcm : Int32) (mop : Int32) (mkd : Int32) (mam : Int32) (mis : Nat) (mip : Nat) (msd : Nat) (mrg : Nat) (mmn : Int32) (mou : Nat) (b : Nat) (ee : Nat) (fr : Nat) (f : Nat → Int32) (fd : Nat → Int32) (hbe : b ≤ ee) (hee : ee ≤ 120) (hb0 : ¬ mkd = 0 → b < 120) (hfr : fr ≤ 60) : Ct l G y_Mo_start b_Mo_start 2 (some .int) rm_Mo_start [.ref h0] [(h0, .inr (1, [.int mcd, .int mty, .ref mtx, .int mpl, .int mth, .int mln, .ref msc, .int (nI fr), .ref mdr, .int mcm, .int mop, .int mkd, .int (nI b), .int (nI ee), .int mam, .ref mis, .ref mip, .ref msd, .ref mrg, .int mmn, .ref mou])), (mtx, .inl (G.2 2, 120, .inl f)), (mdr, .inl (G.2 0, 400, .inl fd))] 0 0 (fun v w' => v = some (.int ((mSta f mkd b ee mam fd fr mcm mop).1)) ∧ w' = [(h0, .inr (1, [.int mcd, .int mty, .ref mtx, .int mpl, .int mth, .int mln, .ref msc, .int (nI fr), .ref mdr, .int mcm, .int ((mSta f mkd b ee mam fd fr mcm mop).2.2), .int mkd, .int (nI b), .int (nI ee), .int mam, .ref mis, .ref mip, .ref msd, .ref mrg, .int mmn, .ref mou])), (mtx, .inl (G.2 2, 120, .inl f)), (mdr, .inl (G.2 0, 400, .inl ((mSta f mkd b ee mam fd fr mcm mop).2.1)))]) := by
  refine Ct.of (by decide) (Nat.le_of_ble_eq_true rfl) (fun p e s m args below meth c A ls H locs hx hb hml hr hnl hown hts hnm hK hA hl hW => ?_)
  have hl : lv_has ls 2 [(0, .ref h0)] := hl
  refine lv_iconst (v := 0) hx hb d_Mo_start_0 (by decide) ?_
  refine lv_istore_n (lv' := [(1, .int 0), (0, .ref h0)]) hx hb d_Mo_start_1 rfl hl (by decide) rfl (fun ls hl => ?_)
  refine lv_iload_n hx hb d_Mo_start_2 rfl (lv_at hl 0 rfl) ?_
  refine lv_bipush (v := 6) hx hb d_Mo_start_3 (by decide) ?_
  refine lv_icmp_ge (tgt := 20) hx hb d_Mo_start_5 rfl (fun hz => absurd hz (by decide)) (fun _ => ?_)
  refine lv_aload_n hx hb d_Mo_start_8 rfl (lv_at hl 1 rfl) ?_
  refine lv_iload_n hx hb d_Mo_start_9 rfl (lv_at hl 0 rfl) ?_
  refine lv_iconst (v := 0) hx hb d_Mo_start_10 (by decide) ?_
  refine Ct.callV (As := [.int 0, .int 0]) (rest := []) hx hb hml hown hts hK hA hl.1 hW (c_Mo_put2 l G h0 mcd mty mtx mpl mth mln msc (nI fr) mdr mcm mop mkd (nI b) (nI ee) mam mis mip msd mrg mmn mou fd (0 : Int32) (0 : Int32) (put_in (k := 0) hfr (by decide))) (cwV 2 hts (good_V w_ml_Mo_77 w_im_Mo_put w_se_Mo_put w_ini_Mo w_code_Mo_put) rfl rfl rfl yd_Mo_put ⟨by decide, by decide⟩) [0, 2] (by decide) rfl (ci := 1) (r := vr_Mo) rfl rfl rfl rfl rfl (Nat.le_of_ble_eq_true rfl) d_Mo_start_11 ⟨by decide, by decide⟩ (fun v w' hp => by obtain ⟨-, rfl⟩ := hp; exact Nat.le_of_ble_eq_true rfl) (fun v w' H locs hp hW => ?_)
  obtain ⟨rfl, rfl⟩ := hp
  have hW : Wd G A s.heap [(h0, .inr (1, [.int mcd, .int mty, .ref mtx, .int mpl, .int mth, .int mln, .ref msc, .int (nI fr), .ref mdr, .int mcm, .int mop, .int mkd, .int (nI b), .int (nI ee), .int mam, .ref mis, .ref mip, .ref msd, .ref mrg, .int mmn, .ref mou])), (mtx, .inl (G.2 2, 120, .inl f)), (mdr, .inl (G.2 0, 400, .inl (upd fd (((6 * (nI fr)) + (0 : Int32)).toNatClampNeg) (0 : Int32))))] H locs := hW
  refine W.eq (g2 := F0 m 14 ls []) rfl ?_
  refine lv_iinc (k := 0) (v := 1) (lv' := [(1, .int 1), (0, .ref h0)]) hx hb d_Mo_start_14 hl rfl (by decide) (by decide) rfl (fun ls hl => ?_)
  refine lv_goto (tgt := 2) hx hb d_Mo_start_17 rfl ?_
  refine lv_iload_n hx hb d_Mo_start_2 rfl (lv_at hl 0 rfl) ?_
  refine lv_bipush (v := 6) hx hb d_Mo_start_3 (by decide) ?_
  refine lv_icmp_ge (tgt := 20) hx hb d_Mo_start_5 rfl (fun hz => absurd hz (by decide)) (fun _ => ?_)
  refine lv_aload_n hx hb d_Mo_start_8 rfl (lv_at hl 1 rfl) ?_
  refine lv_iload_n hx hb d_Mo_start_9 rfl (lv_at hl 0 rfl) ?_
  refine lv_iconst (v := 0) hx hb d_Mo_start_10 (by decide) ?_
  refine Ct.callV (As := [.int 1, .int 0]) (rest := []) hx hb hml hown hts hK hA hl.1 hW (c_Mo_put2 l G h0 mcd mty mtx mpl mth mln msc (nI fr) mdr mcm mop mkd (nI b) (nI ee) mam mis mip msd mrg mmn mou (upd fd (((6 * (nI fr)) + (0 : Int32)).toNatClampNeg) (0 : Int32)) (1 : Int32) (0 : Int32) (put_in (k := 1) hfr (by decide))) (cwV 2 hts (good_V w_ml_Mo_77 w_im_Mo_put w_se_Mo_put w_ini_Mo w_code_Mo_put) rfl rfl rfl yd_Mo_put ⟨by decide, by decide⟩) [0, 2] (by decide) rfl (ci := 1) (r := vr_Mo) rfl rfl rfl rfl rfl (Nat.le_of_ble_eq_true rfl) d_Mo_start_11 ⟨by decide, by decide⟩ (fun v w' hp => by obtain ⟨-, rfl⟩ := hp; exact Nat.le_of_ble_eq_true rfl) (fun v w' H locs hp hW => ?_)
  obtain ⟨rfl, rfl⟩ := hp
  have hW : Wd G A s.heap [(h0, .inr (1, [.int mcd, .int mty, .ref mtx, .int mpl, .int mth, .int mln, .ref msc, .int (nI fr), .ref mdr, .int mcm, .int mop, .int mkd, .int (nI b), .int (nI ee), .int mam, .ref mis, .ref mip, .ref msd, .ref mrg, .int mmn, .ref mou])), (mtx, .inl (G.2 2, 120, .inl f)), (mdr, .inl (G.2 0, 400, .inl (upd (upd fd (((6 * (nI fr)) + (0 : Int32)).toNatClampNeg) (0 : Int32)) (((6 * (nI fr)) + (1 : Int32)).toNatClampNeg) (0 : Int32))))] H locs := hW
  refine W.eq (g2 := F0 m 14 ls []) rfl ?_
  refine lv_iinc (k := 0) (v := 2) (lv' := [(1, .int 2), (0, .ref h0)]) hx hb d_Mo_start_14 hl rfl (by decide) (by decide) rfl (fun ls hl => ?_)
  refine lv_goto (tgt := 2) hx hb d_Mo_start_17 rfl ?_
  refine lv_iload_n hx hb d_Mo_start_2 rfl (lv_at hl 0 rfl) ?_
  refine lv_bipush (v := 6) hx hb d_Mo_start_3 (by decide) ?_
  refine lv_icmp_ge (tgt := 20) hx hb d_Mo_start_5 rfl (fun hz => absurd hz (by decide)) (fun _ => ?_)
  refine lv_aload_n hx hb d_Mo_start_8 rfl (lv_at hl 1 rfl) ?_
  refine lv_iload_n hx hb d_Mo_start_9 rfl (lv_at hl 0 rfl) ?_
  refine lv_iconst (v := 0) hx hb d_Mo_start_10 (by decide) ?_
  refine Ct.callV (As := [.int 2, .int 0]) (rest := []) hx hb hml hown hts hK hA hl.1 hW (c_Mo_put2 l G h0 mcd mty mtx mpl mth mln msc (nI fr) mdr mcm mop mkd (nI b) (nI ee) mam mis mip msd mrg mmn mou (upd (upd fd (((6 * (nI fr)) + (0 : Int32)).toNatClampNeg) (0 : Int32)) (((6 * (nI fr)) + (1 : Int32)).toNatClampNeg) (0 : Int32)) (2 : Int32) (0 : Int32) (put_in (k := 2) hfr (by decide))) (cwV 2 hts (good_V w_ml_Mo_77 w_im_Mo_put w_se_Mo_put w_ini_Mo w_code_Mo_put) rfl rfl rfl yd_Mo_put ⟨by decide, by decide⟩) [0, 2] (by decide) rfl (ci := 1) (r := vr_Mo) rfl rfl rfl rfl rfl (Nat.le_of_ble_eq_true rfl) d_Mo_start_11 ⟨by decide, by decide⟩ (fun v w' hp => by obtain ⟨-, rfl⟩ := hp; exact Nat.le_of_ble_eq_true rfl) (fun v w' H locs hp hW => ?_)
  obtain ⟨rfl, rfl⟩ := hp
  have hW : Wd G A s.heap [(h0, .inr (1, [.int mcd, .int mty, .ref mtx, .int mpl, .int mth, .int mln, .ref msc, .int (nI fr), .ref mdr, .int mcm, .int mop, .int mkd, .int (nI b), .int (nI ee), .int mam, .ref mis, .ref mip, .ref msd, .ref mrg, .int mmn, .ref mou])), (mtx, .inl (G.2 2, 120, .inl f)), (mdr, .inl (G.2 0, 400, .inl (upd (upd (upd fd (((6 * (nI fr)) + (0 : Int32)).toNatClampNeg) (0 : Int32)) (((6 * (nI fr)) + (1 : Int32)).toNatClampNeg) (0 : Int32)) (((6 * (nI fr)) + (2 : Int32)).toNatClampNeg) (0 : Int32))))] H locs := hW
  refine W.eq (g2 := F0 m 14 ls []) rfl ?_
  refine lv_iinc (k := 0) (v := 3) (lv' := [(1, .int 3), (0, .ref h0)]) hx hb d_Mo_start_14 hl rfl (by decide) (by decide) rfl (fun ls hl => ?_)
  refine lv_goto (tgt := 2) hx hb d_Mo_start_17 rfl ?_
  refine lv_iload_n hx hb d_Mo_start_2 rfl (lv_at hl 0 rfl) ?_
  refine lv_bipush (v := 6) hx hb d_Mo_start_3 (by decide) ?_
  refine lv_icmp_ge (tgt := 20) hx hb d_Mo_start_5 rfl (fun hz => absurd hz (by decide)) (fun _ => ?_)
  refine lv_aload_n hx hb d_Mo_start_8 rfl (lv_at hl 1 rfl) ?_
  refine lv_iload_n hx hb d_Mo_start_9 rfl (lv_at hl 0 rfl) ?_
  refine lv_iconst (v := 0) hx hb d_Mo_start_10 (by decide) ?_
  refine Ct.callV (As := [.int 3, .int 0]) (rest := []) hx hb hml hown hts hK hA hl.1 hW (c_Mo_put2 l G h0 mcd mty mtx mpl mth mln msc (nI fr) mdr mcm mop mkd (nI b) (nI ee) mam mis mip msd mrg mmn mou (upd (upd (upd fd (((6 * (nI fr)) + (0 : Int32)).toNatClampNeg) (0 : Int32)) (((6 * (nI fr)) + (1 : Int32)).toNatClampNeg) (0 : Int32)) (((6 * (nI fr)) + (2 : Int32)).toNatClampNeg) (0 : Int32)) (3 : Int32) (0 : Int32) (put_in (k := 3) hfr (by decide))) (cwV 2 hts (good_V w_ml_Mo_77 w_im_Mo_put w_se_Mo_put w_ini_Mo w_code_Mo_put) rfl rfl rfl yd_Mo_put ⟨by decide, by decide⟩) [0, 2] (by decide) rfl (ci := 1) (r := vr_Mo) rfl rfl rfl rfl rfl (Nat.le_of_ble_eq_true rfl) d_Mo_start_11 ⟨by decide, by decide⟩ (fun v w' hp => by obtain ⟨-, rfl⟩ := hp; exact Nat.le_of_ble_eq_true rfl) (fun v w' H locs hp hW => ?_)
  obtain ⟨rfl, rfl⟩ := hp
  have hW : Wd G A s.heap [(h0, .inr (1, [.int mcd, .int mty, .ref mtx, .int mpl, .int mth, .int mln, .ref msc, .int (nI fr), .ref mdr, .int mcm, .int mop, .int mkd, .int (nI b), .int (nI ee), .int mam, .ref mis, .ref mip, .ref msd, .ref mrg, .int mmn, .ref mou])), (mtx, .inl (G.2 2, 120, .inl f)), (mdr, .inl (G.2 0, 400, .inl (upd (upd (upd (upd fd (((6 * (nI fr)) + (0 : Int32)).toNatClampNeg) (0 : Int32)) (((6 * (nI fr)) + (1 : Int32)).toNatClampNeg) (0 : Int32)) (((6 * (nI fr)) + (2 : Int32)).toNatClampNeg) (0 : Int32)) (((6 * (nI fr)) + (3 : Int32)).toNatClampNeg) (0 : Int32))))] H locs := hW
  refine W.eq (g2 := F0 m 14 ls []) rfl ?_
  refine lv_iinc (k := 0) (v := 4) (lv' := [(1, .int 4), (0, .ref h0)]) hx hb d_Mo_start_14 hl rfl (by decide) (by decide) rfl (fun ls hl => ?_)
  refine lv_goto (tgt := 2) hx hb d_Mo_start_17 rfl ?_
  refine lv_iload_n hx hb d_Mo_start_2 rfl (lv_at hl 0 rfl) ?_
  refine lv_bipush (v := 6) hx hb d_Mo_start_3 (by decide) ?_
  refine lv_icmp_ge (tgt := 20) hx hb d_Mo_start_5 rfl (fun hz => absurd hz (by decide)) (fun _ => ?_)
  refine lv_aload_n hx hb d_Mo_start_8 rfl (lv_at hl 1 rfl) ?_
  refine lv_iload_n hx hb d_Mo_start_9 rfl (lv_at hl 0 rfl) ?_
  refine lv_iconst (v := 0) hx hb d_Mo_start_10 (by decide) ?_
  refine Ct.callV (As := [.int 4, .int 0]) (rest := []) hx hb hml hown hts hK hA hl.1 hW (c_Mo_put2 l G h0 mcd mty mtx mpl mth mln msc (nI fr) mdr mcm mop mkd (nI b) (nI ee) mam mis mip msd mrg mmn mou (upd (upd (upd (upd fd (((6 * (nI fr)) + (0 : Int32)).toNatClampNeg) (0 : Int32)) (((6 * (nI fr)) + (1 : Int32)).toNatClampNeg) (0 : Int32)) (((6 * (nI fr)) + (2 : Int32)).toNatClampNeg) (0 : Int32)) (((6 * (nI fr)) + (3 : Int32)).toNatClampNeg) (0 : Int32)) (4 : Int32) (0 : Int32) (put_in (k := 4) hfr (by decide))) (cwV 2 hts (good_V w_ml_Mo_77 w_im_Mo_put w_se_Mo_put w_ini_Mo w_code_Mo_put) rfl rfl rfl yd_Mo_put ⟨by decide, by decide⟩) [0, 2] (by decide) rfl (ci := 1) (r := vr_Mo) rfl rfl rfl rfl rfl (Nat.le_of_ble_eq_true rfl) d_Mo_start_11 ⟨by decide, by decide⟩ (fun v w' hp => by obtain ⟨-, rfl⟩ := hp; exact Nat.le_of_ble_eq_true rfl) (fun v w' H locs hp hW => ?_)
  obtain ⟨rfl, rfl⟩ := hp
  have hW : Wd G A s.heap [(h0, .inr (1, [.int mcd, .int mty, .ref mtx, .int mpl, .int mth, .int mln, .ref msc, .int (nI fr), .ref mdr, .int mcm, .int mop, .int mkd, .int (nI b), .int (nI ee), .int mam, .ref mis, .ref mip, .ref msd, .ref mrg, .int mmn, .ref mou])), (mtx, .inl (G.2 2, 120, .inl f)), (mdr, .inl (G.2 0, 400, .inl (upd (upd (upd (upd (upd fd (((6 * (nI fr)) + (0 : Int32)).toNatClampNeg) (0 : Int32)) (((6 * (nI fr)) + (1 : Int32)).toNatClampNeg) (0 : Int32)) (((6 * (nI fr)) + (2 : Int32)).toNatClampNeg) (0 : Int32)) (((6 * (nI fr)) + (3 : Int32)).toNatClampNeg) (0 : Int32)) (((6 * (nI fr)) + (4 : Int32)).toNatClampNeg) (0 : Int32))))] H locs := hW
  refine W.eq (g2 := F0 m 14 ls []) rfl ?_
  refine lv_iinc (k := 0) (v := 5) (lv' := [(1, .int 5), (0, .ref h0)]) hx hb d_Mo_start_14 hl rfl (by decide) (by decide) rfl (fun ls hl => ?_)
  refine lv_goto (tgt := 2) hx hb d_Mo_start_17 rfl ?_
  refine lv_iload_n hx hb d_Mo_start_2 rfl (lv_at hl 0 rfl) ?_
  refine lv_bipush (v := 6) hx hb d_Mo_start_3 (by decide) ?_
  refine lv_icmp_ge (tgt := 20) hx hb d_Mo_start_5 rfl (fun hz => absurd hz (by decide)) (fun _ => ?_)
  refine lv_aload_n hx hb d_Mo_start_8 rfl (lv_at hl 1 rfl) ?_
  refine lv_iload_n hx hb d_Mo_start_9 rfl (lv_at hl 0 rfl) ?_
  refine lv_iconst (v := 0) hx hb d_Mo_start_10 (by decide) ?_
  refine Ct.callV (As := [.int 5, .int 0]) (rest := []) hx hb hml hown hts hK hA hl.1 hW (c_Mo_put2 l G h0 mcd mty mtx mpl mth mln msc (nI fr) mdr mcm mop mkd (nI b) (nI ee) mam mis mip msd mrg mmn mou (upd (upd (upd (upd (upd fd (((6 * (nI fr)) + (0 : Int32)).toNatClampNeg) (0 : Int32)) (((6 * (nI fr)) + (1 : Int32)).toNatClampNeg) (0 : Int32)) (((6 * (nI fr)) + (2 : Int32)).toNatClampNeg) (0 : Int32)) (((6 * (nI fr)) + (3 : Int32)).toNatClampNeg) (0 : Int32)) (((6 * (nI fr)) + (4 : Int32)).toNatClampNeg) (0 : Int32)) (5 : Int32) (0 : Int32) (put_in (k := 5) hfr (by decide))) (cwV 2 hts (good_V w_ml_Mo_77 w_im_Mo_put w_se_Mo_put w_ini_Mo w_code_Mo_put) rfl rfl rfl yd_Mo_put ⟨by decide, by decide⟩) [0, 2] (by decide) rfl (ci := 1) (r := vr_Mo) rfl rfl rfl rfl rfl (Nat.le_of_ble_eq_true rfl) d_Mo_start_11 ⟨by decide, by decide⟩ (fun v w' hp => by obtain ⟨-, rfl⟩ := hp; exact Nat.le_of_ble_eq_true rfl) (fun v w' H locs hp hW => ?_)
  obtain ⟨rfl, rfl⟩ := hp
  have hW : Wd G A s.heap [(h0, .inr (1, [.int mcd, .int mty, .ref mtx, .int mpl, .int mth, .int mln, .ref msc, .int (nI fr), .ref mdr, .int mcm, .int mop, .int mkd, .int (nI b), .int (nI ee), .int mam, .ref mis, .ref mip, .ref msd, .ref mrg, .int mmn, .ref mou])), (mtx, .inl (G.2 2, 120, .inl f)), (mdr, .inl (G.2 0, 400, .inl (upd (upd (upd (upd (upd (upd fd (((6 * (nI fr)) + (0 : Int32)).toNatClampNeg) (0 : Int32)) (((6 * (nI fr)) + (1 : Int32)).toNatClampNeg) (0 : Int32)) (((6 * (nI fr)) + (2 : Int32)).toNatClampNeg) (0 : Int32)) (((6 * (nI fr)) + (3 : Int32)).toNatClampNeg) (0 : Int32)) (((6 * (nI fr)) + (4 : Int32)).toNatClampNeg) (0 : Int32)) (((6 * (nI fr)) + (5 : Int32)).toNatClampNeg) (0 : Int32))))] H locs := hW
  refine W.eq (g2 := F0 m 14 ls []) rfl ?_
  refine lv_iinc (k := 0) (v := 6) (lv' := [(1, .int 6), (0, .ref h0)]) hx hb d_Mo_start_14 hl rfl (by decide) (by decide) rfl (fun ls hl => ?_)
  refine lv_goto (tgt := 2) hx hb d_Mo_start_17 rfl ?_
  refine lv_iload_n hx hb d_Mo_start_2 rfl (lv_at hl 0 rfl) ?_
  refine lv_bipush (v := 6) hx hb d_Mo_start_3 (by decide) ?_
  refine lv_icmp_ge (tgt := 20) hx hb d_Mo_start_5 rfl (fun _ => ?_) (fun hz => absurd (by decide) hz)
  refine lv_aload_n hx hb d_Mo_start_20 rfl (lv_at hl 1 rfl) ?_
  refine Ct.callV (As := []) (rest := []) hx hb hml hown hts hK hA hl.1 hW (c_Mo_isRegisterR l G h0 mcd mty mtx mpl mth mln msc (nI fr) mdr mcm mop mkd mam mis mip msd mrg mmn mou b ee ) (cwV 0 hts (good_V w_ml_Mo_81 w_im_Mo_isRegister w_se_Mo_isRegister w_ini_Mo w_code_Mo_isRegister) rfl rfl rfl yd_Mo_isRegister ⟨by decide, by decide⟩) [0] (by decide) rfl (ci := 1) (r := vr_Mo) rfl rfl rfl rfl rfl (Nat.le_of_ble_eq_true rfl) d_Mo_start_21 ⟨by decide, by decide⟩ (fun v w' hp => by obtain ⟨-, rfl⟩ := hp; exact Nat.le_of_ble_eq_true rfl) (fun v w' H locs hp hW => ?_)
  obtain ⟨rfl, rfl⟩ := hp
  have hW : Wd G A s.heap [(h0, .inr (1, [.int mcd, .int mty, .ref mtx, .int mpl, .int mth, .int mln, .ref msc, .int (nI fr), .ref mdr, .int mcm, .int mop, .int mkd, .int (nI b), .int (nI ee), .int mam, .ref mis, .ref mip, .ref msd, .ref mrg, .int mmn, .ref mou])), (mtx, .inl (G.2 2, 120, .inl f)), (mdr, .inl (G.2 0, 400, .inl (upd (upd (upd (upd (upd (upd fd (((6 * (nI fr)) + (0 : Int32)).toNatClampNeg) (0 : Int32)) (((6 * (nI fr)) + (1 : Int32)).toNatClampNeg) (0 : Int32)) (((6 * (nI fr)) + (2 : Int32)).toNatClampNeg) (0 : Int32)) (((6 * (nI fr)) + (3 : Int32)).toNatClampNeg) (0 : Int32)) (((6 * (nI fr)) + (4 : Int32)).toNatClampNeg) (0 : Int32)) (((6 * (nI fr)) + (5 : Int32)).toNatClampNeg) (0 : Int32))))] H locs := hW
  refine W.eq (g2 := F0 m 24 ls [.int (o_Mo_isRegister_r mkd b ee)]) rfl ?_
  refine lv_if_eq (tgt := 46) hx hb d_Mo_start_24 rfl (fun ht1 => ?_) (fun hf2 => ?_)
  · refine lv_aload_n hx hb d_Mo_start_46 rfl (lv_at hl 1 rfl) ?_
    refine lv_bipush (v := 111) hx hb d_Mo_start_47 (by decide) ?_
    refine lv_bipush (v := 112) hx hb d_Mo_start_49 (by decide) ?_
    refine lv_bipush (v := 101) hx hb d_Mo_start_51 (by decide) ?_
    refine lv_bipush (v := 110) hx hb d_Mo_start_53 (by decide) ?_
    refine Ct.callV (As := [.int 111, .int 112, .int 101, .int 110]) (rest := []) hx hb hml hown hts hK hA hl.1 hW (c_Mo_isWordR l G h0 mcd mty mtx mpl mth mln msc (nI fr) mdr mcm mop mkd mam mis mip msd mrg mmn mou b ee f (111 : Int32) (112 : Int32) (101 : Int32) (110 : Int32) (by first | assumption | omega | decide) (by first | assumption | omega | decide) (by first | assumption | omega | decide)) (cwV 4 hts (good_V w_ml_Mo_85 w_im_Mo_isWord w_se_Mo_isWord w_ini_Mo w_code_Mo_isWord) rfl rfl rfl yd_Mo_isWord ⟨by decide, by decide⟩) [0, 1] (by decide) rfl (ci := 1) (r := vr_Mo) rfl rfl rfl rfl rfl (Nat.le_of_ble_eq_true rfl) d_Mo_start_55 ⟨by decide, by decide⟩ (fun v w' hp => by obtain ⟨-, rfl⟩ := hp; exact Nat.le_of_ble_eq_true rfl) (fun v w' H locs hp hW => ?_)
    obtain ⟨rfl, rfl⟩ := hp
    have hW : Wd G A s.heap [(h0, .inr (1, [.int mcd, .int mty, .ref mtx, .int mpl, .int mth, .int mln, .ref msc, .int (nI fr), .ref mdr, .int mcm, .int mop, .int mkd, .int (nI b), .int (nI ee), .int mam, .ref mis, .ref mip, .ref msd, .ref mrg, .int mmn, .ref mou])), (mtx, .inl (G.2 2, 120, .inl f)), (mdr, .inl (G.2 0, 400, .inl (upd (upd (upd (upd (upd (upd fd (((6 * (nI fr)) + (0 : Int32)).toNatClampNeg) (0 : Int32)) (((6 * (nI fr)) + (1 : Int32)).toNatClampNeg) (0 : Int32)) (((6 * (nI fr)) + (2 : Int32)).toNatClampNeg) (0 : Int32)) (((6 * (nI fr)) + (3 : Int32)).toNatClampNeg) (0 : Int32)) (((6 * (nI fr)) + (4 : Int32)).toNatClampNeg) (0 : Int32)) (((6 * (nI fr)) + (5 : Int32)).toNatClampNeg) (0 : Int32))))] H locs := hW
    refine W.eq (g2 := F0 m 58 ls [.int (o_Mo_isWord_r mkd b ee f (111 : Int32) (112 : Int32) (101 : Int32) (110 : Int32))]) rfl ?_
    refine lv_if_eq (tgt := 95) hx hb d_Mo_start_58 rfl (fun ht3 => ?_) (fun hf4 => ?_)
    · refine lv_aload_n hx hb d_Mo_start_95 rfl (lv_at hl 1 rfl) ?_
      refine lv_bipush (v := 115) hx hb d_Mo_start_96 (by decide) ?_
      refine lv_bipush (v := 111) hx hb d_Mo_start_98 (by decide) ?_
      refine lv_bipush (v := 114) hx hb d_Mo_start_100 (by decide) ?_
      refine lv_bipush (v := 116) hx hb d_Mo_start_102 (by decide) ?_
      refine Ct.callV (As := [.int 115, .int 111, .int 114, .int 116]) (rest := []) hx hb hml hown hts hK hA hl.1 hW (c_Mo_isWordR l G h0 mcd mty mtx mpl mth mln msc (nI fr) mdr mcm mop mkd mam mis mip msd mrg mmn mou b ee f (115 : Int32) (111 : Int32) (114 : Int32) (116 : Int32) (by first | assumption | omega | decide) (by first | assumption | omega | decide) (by first | assumption | omega | decide)) (cwV 4 hts (good_V w_ml_Mo_85 w_im_Mo_isWord w_se_Mo_isWord w_ini_Mo w_code_Mo_isWord) rfl rfl rfl yd_Mo_isWord ⟨by decide, by decide⟩) [0, 1] (by decide) rfl (ci := 1) (r := vr_Mo) rfl rfl rfl rfl rfl (Nat.le_of_ble_eq_true rfl) d_Mo_start_104 ⟨by decide, by decide⟩ (fun v w' hp => by obtain ⟨-, rfl⟩ := hp; exact Nat.le_of_ble_eq_true rfl) (fun v w' H locs hp hW => ?_)
      obtain ⟨rfl, rfl⟩ := hp
      have hW : Wd G A s.heap [(h0, .inr (1, [.int mcd, .int mty, .ref mtx, .int mpl, .int mth, .int mln, .ref msc, .int (nI fr), .ref mdr, .int mcm, .int mop, .int mkd, .int (nI b), .int (nI ee), .int mam, .ref mis, .ref mip, .ref msd, .ref mrg, .int mmn, .ref mou])), (mtx, .inl (G.2 2, 120, .inl f)), (mdr, .inl (G.2 0, 400, .inl (upd (upd (upd (upd (upd (upd fd (((6 * (nI fr)) + (0 : Int32)).toNatClampNeg) (0 : Int32)) (((6 * (nI fr)) + (1 : Int32)).toNatClampNeg) (0 : Int32)) (((6 * (nI fr)) + (2 : Int32)).toNatClampNeg) (0 : Int32)) (((6 * (nI fr)) + (3 : Int32)).toNatClampNeg) (0 : Int32)) (((6 * (nI fr)) + (4 : Int32)).toNatClampNeg) (0 : Int32)) (((6 * (nI fr)) + (5 : Int32)).toNatClampNeg) (0 : Int32))))] H locs := hW
      refine W.eq (g2 := F0 m 107 ls [.int (o_Mo_isWord_r mkd b ee f (115 : Int32) (111 : Int32) (114 : Int32) (116 : Int32))]) rfl ?_
      refine lv_istore_n (lv' := [(1, .int (o_Mo_isWord_r mkd b ee f (115 : Int32) (111 : Int32) (114 : Int32) (116 : Int32))), (0, .ref h0)]) hx hb d_Mo_start_107 rfl hl (by decide) rfl (fun ls hl => ?_)
      refine lv_aload_n hx hb d_Mo_start_108 rfl (lv_at hl 1 rfl) ?_
      refine lv_iconst (v := 0) hx hb d_Mo_start_109 (by decide) ?_
      refine lv_iload_n hx hb d_Mo_start_110 rfl (lv_at hl 0 rfl) ?_
      refine lv_if_eq (tgt := 119) hx hb d_Mo_start_111 rfl (fun ht5 => ?_) (fun hf6 => ?_)
      · refine lv_bipush (v := 7) hx hb d_Mo_start_119 (by decide) ?_
        refine Ct.callV (As := [.int 0, .int 7]) (rest := []) hx hb hml hown hts hK hA hl.1 hW (c_Mo_put2 l G h0 mcd mty mtx mpl mth mln msc (nI fr) mdr mcm mop mkd (nI b) (nI ee) mam mis mip msd mrg mmn mou (upd (upd (upd (upd (upd (upd fd (((6 * (nI fr)) + (0 : Int32)).toNatClampNeg) (0 : Int32)) (((6 * (nI fr)) + (1 : Int32)).toNatClampNeg) (0 : Int32)) (((6 * (nI fr)) + (2 : Int32)).toNatClampNeg) (0 : Int32)) (((6 * (nI fr)) + (3 : Int32)).toNatClampNeg) (0 : Int32)) (((6 * (nI fr)) + (4 : Int32)).toNatClampNeg) (0 : Int32)) (((6 * (nI fr)) + (5 : Int32)).toNatClampNeg) (0 : Int32)) (0 : Int32) (7 : Int32) (put_in (k := 0) hfr (by decide))) (cwV 2 hts (good_V w_ml_Mo_77 w_im_Mo_put w_se_Mo_put w_ini_Mo w_code_Mo_put) rfl rfl rfl yd_Mo_put ⟨by decide, by decide⟩) [0, 2] (by decide) rfl (ci := 1) (r := vr_Mo) rfl rfl rfl rfl rfl (Nat.le_of_ble_eq_true rfl) d_Mo_start_121 ⟨by decide, by decide⟩ (fun v w' hp => by obtain ⟨-, rfl⟩ := hp; exact Nat.le_of_ble_eq_true rfl) (fun v w' H locs hp hW => ?_)
        obtain ⟨rfl, rfl⟩ := hp
        have hW : Wd G A s.heap [(h0, .inr (1, [.int mcd, .int mty, .ref mtx, .int mpl, .int mth, .int mln, .ref msc, .int (nI fr), .ref mdr, .int mcm, .int mop, .int mkd, .int (nI b), .int (nI ee), .int mam, .ref mis, .ref mip, .ref msd, .ref mrg, .int mmn, .ref mou])), (mtx, .inl (G.2 2, 120, .inl f)), (mdr, .inl (G.2 0, 400, .inl (upd (upd (upd (upd (upd (upd (upd fd (((6 * (nI fr)) + (0 : Int32)).toNatClampNeg) (0 : Int32)) (((6 * (nI fr)) + (1 : Int32)).toNatClampNeg) (0 : Int32)) (((6 * (nI fr)) + (2 : Int32)).toNatClampNeg) (0 : Int32)) (((6 * (nI fr)) + (3 : Int32)).toNatClampNeg) (0 : Int32)) (((6 * (nI fr)) + (4 : Int32)).toNatClampNeg) (0 : Int32)) (((6 * (nI fr)) + (5 : Int32)).toNatClampNeg) (0 : Int32)) (((6 * (nI fr)) + (0 : Int32)).toNatClampNeg) (7 : Int32))))] H locs := hW
        refine W.eq (g2 := F0 m 124 ls []) rfl ?_
        refine lv_iload_n hx hb d_Mo_start_124 rfl (lv_at hl 0 rfl) ?_
        refine lv_if_ne (tgt := 143) hx hb d_Mo_start_125 rfl (fun hz => absurd ht5 hz) (fun _ => ?_)
        refine lv_aload_n hx hb d_Mo_start_128 rfl (lv_at hl 1 rfl) ?_
        refine lv_bipush (v := 115) hx hb d_Mo_start_129 (by decide) ?_
        refine lv_bipush (v := 117) hx hb d_Mo_start_131 (by decide) ?_
        refine lv_bipush (v := 109) hx hb d_Mo_start_133 (by decide) ?_
        refine lv_bipush (v := 115) hx hb d_Mo_start_135 (by decide) ?_
        refine Ct.callV (As := [.int 115, .int 117, .int 109, .int 115]) (rest := []) hx hb hml hown hts hK hA hl.1 hW (c_Mo_isWordR l G h0 mcd mty mtx mpl mth mln msc (nI fr) mdr mcm mop mkd mam mis mip msd mrg mmn mou b ee f (115 : Int32) (117 : Int32) (109 : Int32) (115 : Int32) (by first | assumption | omega | decide) (by first | assumption | omega | decide) (by first | assumption | omega | decide)) (cwV 4 hts (good_V w_ml_Mo_85 w_im_Mo_isWord w_se_Mo_isWord w_ini_Mo w_code_Mo_isWord) rfl rfl rfl yd_Mo_isWord ⟨by decide, by decide⟩) [0, 1] (by decide) rfl (ci := 1) (r := vr_Mo) rfl rfl rfl rfl rfl (Nat.le_of_ble_eq_true rfl) d_Mo_start_137 ⟨by decide, by decide⟩ (fun v w' hp => by obtain ⟨-, rfl⟩ := hp; exact Nat.le_of_ble_eq_true rfl) (fun v w' H locs hp hW => ?_)
        obtain ⟨rfl, rfl⟩ := hp
        have hW : Wd G A s.heap [(h0, .inr (1, [.int mcd, .int mty, .ref mtx, .int mpl, .int mth, .int mln, .ref msc, .int (nI fr), .ref mdr, .int mcm, .int mop, .int mkd, .int (nI b), .int (nI ee), .int mam, .ref mis, .ref mip, .ref msd, .ref mrg, .int mmn, .ref mou])), (mtx, .inl (G.2 2, 120, .inl f)), (mdr, .inl (G.2 0, 400, .inl (upd (upd (upd (upd (upd (upd (upd fd (((6 * (nI fr)) + (0 : Int32)).toNatClampNeg) (0 : Int32)) (((6 * (nI fr)) + (1 : Int32)).toNatClampNeg) (0 : Int32)) (((6 * (nI fr)) + (2 : Int32)).toNatClampNeg) (0 : Int32)) (((6 * (nI fr)) + (3 : Int32)).toNatClampNeg) (0 : Int32)) (((6 * (nI fr)) + (4 : Int32)).toNatClampNeg) (0 : Int32)) (((6 * (nI fr)) + (5 : Int32)).toNatClampNeg) (0 : Int32)) (((6 * (nI fr)) + (0 : Int32)).toNatClampNeg) (7 : Int32))))] H locs := hW
        refine W.eq (g2 := F0 m 140 ls [.int (o_Mo_isWord_r mkd b ee f (115 : Int32) (117 : Int32) (109 : Int32) (115 : Int32))]) rfl ?_
        refine lv_if_eq (tgt := 148) hx hb d_Mo_start_140 rfl (fun ht7 => ?_) (fun hf8 => ?_)
        · refine lv_bipush (v := 16) hx hb d_Mo_start_148 (by decide) ?_
          exact Ct.iret hx hb hr hnl hW (by decide) (by decide) d_Mo_start_150 (by
      have e : mSta f mkd b ee mam fd fr mcm mop = (16, upd (upd (upd (upd (upd (upd (upd fd (((6 * (nI fr)) + (0 : Int32)).toNatClampNeg) (0 : Int32)) (((6 * (nI fr)) + (1 : Int32)).toNatClampNeg) (0 : Int32)) (((6 * (nI fr)) + (2 : Int32)).toNatClampNeg) (0 : Int32)) (((6 * (nI fr)) + (3 : Int32)).toNatClampNeg) (0 : Int32)) (((6 * (nI fr)) + (4 : Int32)).toNatClampNeg) (0 : Int32)) (((6 * (nI fr)) + (5 : Int32)).toNatClampNeg) (0 : Int32)) (((6 * (nI fr)) + (0 : Int32)).toNatClampNeg) (7 : Int32), mop) := by unfold mSta; rw [if_pos ht1, if_pos ht3, if_pos ht5, if_pos ht7]
      rw [e]
      exact ⟨rfl, rfl⟩)
        · refine lv_bipush (v := 12) hx hb d_Mo_start_143 (by decide) ?_
          refine lv_goto (tgt := 150) hx hb d_Mo_start_145 rfl ?_
          exact Ct.iret hx hb hr hnl hW (by decide) (by decide) d_Mo_start_150 (by
      have e : mSta f mkd b ee mam fd fr mcm mop = (12, upd (upd (upd (upd (upd (upd (upd fd (((6 * (nI fr)) + (0 : Int32)).toNatClampNeg) (0 : Int32)) (((6 * (nI fr)) + (1 : Int32)).toNatClampNeg) (0 : Int32)) (((6 * (nI fr)) + (2 : Int32)).toNatClampNeg) (0 : Int32)) (((6 * (nI fr)) + (3 : Int32)).toNatClampNeg) (0 : Int32)) (((6 * (nI fr)) + (4 : Int32)).toNatClampNeg) (0 : Int32)) (((6 * (nI fr)) + (5 : Int32)).toNatClampNeg) (0 : Int32)) (((6 * (nI fr)) + (0 : Int32)).toNatClampNeg) (7 : Int32), mop) := by unfold mSta; rw [if_pos ht1, if_pos ht3, if_pos ht5, if_neg hf8]
      rw [e]
      exact ⟨rfl, rfl⟩)
      · refine lv_bipush (v := 6) hx hb d_Mo_start_114 (by decide) ?_
        refine lv_goto (tgt := 121) hx hb d_Mo_start_116 rfl ?_
        refine Ct.callV (As := [.int 0, .int 6]) (rest := []) hx hb hml hown hts hK hA hl.1 hW (c_Mo_put2 l G h0 mcd mty mtx mpl mth mln msc (nI fr) mdr mcm mop mkd (nI b) (nI ee) mam mis mip msd mrg mmn mou (upd (upd (upd (upd (upd (upd fd (((6 * (nI fr)) + (0 : Int32)).toNatClampNeg) (0 : Int32)) (((6 * (nI fr)) + (1 : Int32)).toNatClampNeg) (0 : Int32)) (((6 * (nI fr)) + (2 : Int32)).toNatClampNeg) (0 : Int32)) (((6 * (nI fr)) + (3 : Int32)).toNatClampNeg) (0 : Int32)) (((6 * (nI fr)) + (4 : Int32)).toNatClampNeg) (0 : Int32)) (((6 * (nI fr)) + (5 : Int32)).toNatClampNeg) (0 : Int32)) (0 : Int32) (6 : Int32) (put_in (k := 0) hfr (by decide))) (cwV 2 hts (good_V w_ml_Mo_77 w_im_Mo_put w_se_Mo_put w_ini_Mo w_code_Mo_put) rfl rfl rfl yd_Mo_put ⟨by decide, by decide⟩) [0, 2] (by decide) rfl (ci := 1) (r := vr_Mo) rfl rfl rfl rfl rfl (Nat.le_of_ble_eq_true rfl) d_Mo_start_121 ⟨by decide, by decide⟩ (fun v w' hp => by obtain ⟨-, rfl⟩ := hp; exact Nat.le_of_ble_eq_true rfl) (fun v w' H locs hp hW => ?_)
        obtain ⟨rfl, rfl⟩ := hp
        have hW : Wd G A s.heap [(h0, .inr (1, [.int mcd, .int mty, .ref mtx, .int mpl, .int mth, .int mln, .ref msc, .int (nI fr), .ref mdr, .int mcm, .int mop, .int mkd, .int (nI b), .int (nI ee), .int mam, .ref mis, .ref mip, .ref msd, .ref mrg, .int mmn, .ref mou])), (mtx, .inl (G.2 2, 120, .inl f)), (mdr, .inl (G.2 0, 400, .inl (upd (upd (upd (upd (upd (upd (upd fd (((6 * (nI fr)) + (0 : Int32)).toNatClampNeg) (0 : Int32)) (((6 * (nI fr)) + (1 : Int32)).toNatClampNeg) (0 : Int32)) (((6 * (nI fr)) + (2 : Int32)).toNatClampNeg) (0 : Int32)) (((6 * (nI fr)) + (3 : Int32)).toNatClampNeg) (0 : Int32)) (((6 * (nI fr)) + (4 : Int32)).toNatClampNeg) (0 : Int32)) (((6 * (nI fr)) + (5 : Int32)).toNatClampNeg) (0 : Int32)) (((6 * (nI fr)) + (0 : Int32)).toNatClampNeg) (6 : Int32))))] H locs := hW
        refine W.eq (g2 := F0 m 124 ls []) rfl ?_
        refine lv_iload_n hx hb d_Mo_start_124 rfl (lv_at hl 0 rfl) ?_
        refine lv_if_ne (tgt := 143) hx hb d_Mo_start_125 rfl (fun _ => ?_) (fun hz => absurd hz hf6)
        refine lv_bipush (v := 12) hx hb d_Mo_start_143 (by decide) ?_
        refine lv_goto (tgt := 150) hx hb d_Mo_start_145 rfl ?_
        exact Ct.iret hx hb hr hnl hW (by decide) (by decide) d_Mo_start_150 (by
      have e : mSta f mkd b ee mam fd fr mcm mop = (12, upd (upd (upd (upd (upd (upd (upd fd (((6 * (nI fr)) + (0 : Int32)).toNatClampNeg) (0 : Int32)) (((6 * (nI fr)) + (1 : Int32)).toNatClampNeg) (0 : Int32)) (((6 * (nI fr)) + (2 : Int32)).toNatClampNeg) (0 : Int32)) (((6 * (nI fr)) + (3 : Int32)).toNatClampNeg) (0 : Int32)) (((6 * (nI fr)) + (4 : Int32)).toNatClampNeg) (0 : Int32)) (((6 * (nI fr)) + (5 : Int32)).toNatClampNeg) (0 : Int32)) (((6 * (nI fr)) + (0 : Int32)).toNatClampNeg) (6 : Int32), mop) := by unfold mSta; rw [if_pos ht1, if_pos ht3, if_neg hf6]
      rw [e]
      exact ⟨rfl, rfl⟩)
    · refine lv_aload_n hx hb d_Mo_start_61 rfl (lv_at hl 1 rfl) ?_
      refine lv_iconst (v := 0) hx hb d_Mo_start_62 (by decide) ?_
      refine lv_bipush (v := 8) hx hb d_Mo_start_63 (by decide) ?_
      refine Ct.callV (As := [.int 0, .int 8]) (rest := []) hx hb hml hown hts hK hA hl.1 hW (c_Mo_put2 l G h0 mcd mty mtx mpl mth mln msc (nI fr) mdr mcm mop mkd (nI b) (nI ee) mam mis mip msd mrg mmn mou (upd (upd (upd (upd (upd (upd fd (((6 * (nI fr)) + (0 : Int32)).toNatClampNeg) (0 : Int32)) (((6 * (nI fr)) + (1 : Int32)).toNatClampNeg) (0 : Int32)) (((6 * (nI fr)) + (2 : Int32)).toNatClampNeg) (0 : Int32)) (((6 * (nI fr)) + (3 : Int32)).toNatClampNeg) (0 : Int32)) (((6 * (nI fr)) + (4 : Int32)).toNatClampNeg) (0 : Int32)) (((6 * (nI fr)) + (5 : Int32)).toNatClampNeg) (0 : Int32)) (0 : Int32) (8 : Int32) (put_in (k := 0) hfr (by decide))) (cwV 2 hts (good_V w_ml_Mo_77 w_im_Mo_put w_se_Mo_put w_ini_Mo w_code_Mo_put) rfl rfl rfl yd_Mo_put ⟨by decide, by decide⟩) [0, 2] (by decide) rfl (ci := 1) (r := vr_Mo) rfl rfl rfl rfl rfl (Nat.le_of_ble_eq_true rfl) d_Mo_start_65 ⟨by decide, by decide⟩ (fun v w' hp => by obtain ⟨-, rfl⟩ := hp; exact Nat.le_of_ble_eq_true rfl) (fun v w' H locs hp hW => ?_)
      obtain ⟨rfl, rfl⟩ := hp
      have hW : Wd G A s.heap [(h0, .inr (1, [.int mcd, .int mty, .ref mtx, .int mpl, .int mth, .int mln, .ref msc, .int (nI fr), .ref mdr, .int mcm, .int mop, .int mkd, .int (nI b), .int (nI ee), .int mam, .ref mis, .ref mip, .ref msd, .ref mrg, .int mmn, .ref mou])), (mtx, .inl (G.2 2, 120, .inl f)), (mdr, .inl (G.2 0, 400, .inl (upd (upd (upd (upd (upd (upd (upd fd (((6 * (nI fr)) + (0 : Int32)).toNatClampNeg) (0 : Int32)) (((6 * (nI fr)) + (1 : Int32)).toNatClampNeg) (0 : Int32)) (((6 * (nI fr)) + (2 : Int32)).toNatClampNeg) (0 : Int32)) (((6 * (nI fr)) + (3 : Int32)).toNatClampNeg) (0 : Int32)) (((6 * (nI fr)) + (4 : Int32)).toNatClampNeg) (0 : Int32)) (((6 * (nI fr)) + (5 : Int32)).toNatClampNeg) (0 : Int32)) (((6 * (nI fr)) + (0 : Int32)).toNatClampNeg) (8 : Int32))))] H locs := hW
      refine W.eq (g2 := F0 m 68 ls []) rfl ?_
      refine lv_aload_n hx hb d_Mo_start_68 rfl (lv_at hl 1 rfl) ?_
      refine lv_dup hx hb d_Mo_start_69 rfl ?_
      refine Wd.get hx hb hts hown hK hW 0 10 in_Mo w_fl_Mo_89 (by decide) d_Mo_start_70 rfl rfl rfl ?_
      refine lv_iconst (v := 1) hx hb d_Mo_start_73 (by decide) ?_
      refine lv_iadd hx hb d_Mo_start_74 ?_
      refine Wd.put hx hb hts hown hK hW 0 10 in_Mo t_Mo_ok n_Mo w_fl_Mo_89 (by decide) d_Mo_start_75 rfl rfl rfl rfl rfl (Nat.le_of_ble_eq_true rfl) (fun H locs hW => ?_)
      have hW : Wd G A s.heap [(h0, .inr (1, [.int mcd, .int mty, .ref mtx, .int mpl, .int mth, .int mln, .ref msc, .int (nI fr), .ref mdr, .int mcm, .int (mop + 1), .int mkd, .int (nI b), .int (nI ee), .int mam, .ref mis, .ref mip, .ref msd, .ref mrg, .int mmn, .ref mou])), (mtx, .inl (G.2 2, 120, .inl f)), (mdr, .inl (G.2 0, 400, .inl (upd (upd (upd (upd (upd (upd (upd fd (((6 * (nI fr)) + (0 : Int32)).toNatClampNeg) (0 : Int32)) (((6 * (nI fr)) + (1 : Int32)).toNatClampNeg) (0 : Int32)) (((6 * (nI fr)) + (2 : Int32)).toNatClampNeg) (0 : Int32)) (((6 * (nI fr)) + (3 : Int32)).toNatClampNeg) (0 : Int32)) (((6 * (nI fr)) + (4 : Int32)).toNatClampNeg) (0 : Int32)) (((6 * (nI fr)) + (5 : Int32)).toNatClampNeg) (0 : Int32)) (((6 * (nI fr)) + (0 : Int32)).toNatClampNeg) (8 : Int32))))] H locs := hW
      refine lv_aload_n hx hb d_Mo_start_78 rfl (lv_at hl 1 rfl) ?_
      refine Wd.get hx hb hts hown hK hW 0 10 in_Mo w_fl_Mo_89 (by decide) d_Mo_start_79 rfl rfl rfl ?_
      refine lv_bipush (v := 16) hx hb d_Mo_start_82 (by decide) ?_
      refine lv_icmp_le (tgt := 92) hx hb d_Mo_start_84 rfl (fun ht9 => ?_) (fun hf10 => ?_)
      · refine lv_bipush (v := 14) hx hb d_Mo_start_92 (by decide) ?_
        exact Ct.iret hx hb hr hnl hW (by decide) (by decide) d_Mo_start_94 (by
      have e : mSta f mkd b ee mam fd fr mcm mop = (14, upd (upd (upd (upd (upd (upd (upd fd (((6 * (nI fr)) + (0 : Int32)).toNatClampNeg) (0 : Int32)) (((6 * (nI fr)) + (1 : Int32)).toNatClampNeg) (0 : Int32)) (((6 * (nI fr)) + (2 : Int32)).toNatClampNeg) (0 : Int32)) (((6 * (nI fr)) + (3 : Int32)).toNatClampNeg) (0 : Int32)) (((6 * (nI fr)) + (4 : Int32)).toNatClampNeg) (0 : Int32)) (((6 * (nI fr)) + (5 : Int32)).toNatClampNeg) (0 : Int32)) (((6 * (nI fr)) + (0 : Int32)).toNatClampNeg) (8 : Int32), mop + 1) := by unfold mSta; rw [if_pos ht1, if_neg hf4, if_pos ht9]
      rw [e]
      exact ⟨rfl, rfl⟩)
      · refine lv_bipush (v := 16) hx hb d_Mo_start_87 (by decide) ?_
        refine lv_goto (tgt := 94) hx hb d_Mo_start_89 rfl ?_
        exact Ct.iret hx hb hr hnl hW (by decide) (by decide) d_Mo_start_94 (by
      have e : mSta f mkd b ee mam fd fr mcm mop = (16, upd (upd (upd (upd (upd (upd (upd fd (((6 * (nI fr)) + (0 : Int32)).toNatClampNeg) (0 : Int32)) (((6 * (nI fr)) + (1 : Int32)).toNatClampNeg) (0 : Int32)) (((6 * (nI fr)) + (2 : Int32)).toNatClampNeg) (0 : Int32)) (((6 * (nI fr)) + (3 : Int32)).toNatClampNeg) (0 : Int32)) (((6 * (nI fr)) + (4 : Int32)).toNatClampNeg) (0 : Int32)) (((6 * (nI fr)) + (5 : Int32)).toNatClampNeg) (0 : Int32)) (((6 * (nI fr)) + (0 : Int32)).toNatClampNeg) (8 : Int32), mop + 1) := by unfold mSta; rw [if_pos ht1, if_neg hf4, if_neg hf10]
      rw [e]
      exact ⟨rfl, rfl⟩)
  · refine lv_aload_n hx hb d_Mo_start_27 rfl (lv_at hl 1 rfl) ?_
    refine lv_iconst (v := 1) hx hb d_Mo_start_28 (by decide) ?_
    refine lv_aload_n hx hb d_Mo_start_29 rfl (lv_at hl 1 rfl) ?_
    refine Wd.get hx hb hts hown hK hW 0 2 in_Mo w_fl_Mo_7 (by decide) d_Mo_start_30 rfl rfl rfl ?_
    refine lv_aload_n hx hb d_Mo_start_33 rfl (lv_at hl 1 rfl) ?_
    refine Wd.get hx hb hts hown hK hW 0 12 in_Mo w_fl_Mo_48 (by decide) d_Mo_start_34 rfl rfl rfl ?_
    refine Wd.cald hx hb hK hW 1 d_Mo_start_37 rfl (vp_in_nI (hb0 (fun q0 => absurd (isReg_1 (mkd := mkd) (b := b) (ee := ee) (by assumption)) (by rw [q0]; decide))) (by omega)) ?_
    refine lv_bipush (v := 97) hx hb d_Mo_start_38 (by decide) ?_
    refine lv_isub hx hb d_Mo_start_40 ?_
    refine Ct.callV (As := [.int 1, .int ((f ((nI b).toNatClampNeg)) - 97)]) (rest := []) hx hb hml hown hts hK hA hl.1 hW (c_Mo_put2 l G h0 mcd mty mtx mpl mth mln msc (nI fr) mdr mcm mop mkd (nI b) (nI ee) mam mis mip msd mrg mmn mou (upd (upd (upd (upd (upd (upd fd (((6 * (nI fr)) + (0 : Int32)).toNatClampNeg) (0 : Int32)) (((6 * (nI fr)) + (1 : Int32)).toNatClampNeg) (0 : Int32)) (((6 * (nI fr)) + (2 : Int32)).toNatClampNeg) (0 : Int32)) (((6 * (nI fr)) + (3 : Int32)).toNatClampNeg) (0 : Int32)) (((6 * (nI fr)) + (4 : Int32)).toNatClampNeg) (0 : Int32)) (((6 * (nI fr)) + (5 : Int32)).toNatClampNeg) (0 : Int32)) (1 : Int32) ((f ((nI b).toNatClampNeg)) - 97) (put_in (k := 1) hfr (by decide))) (cwV 2 hts (good_V w_ml_Mo_77 w_im_Mo_put w_se_Mo_put w_ini_Mo w_code_Mo_put) rfl rfl rfl yd_Mo_put ⟨by decide, by decide⟩) [0, 2] (by decide) rfl (ci := 1) (r := vr_Mo) rfl rfl rfl rfl rfl (Nat.le_of_ble_eq_true rfl) d_Mo_start_41 ⟨by decide, by decide⟩ (fun v w' hp => by obtain ⟨-, rfl⟩ := hp; exact Nat.le_of_ble_eq_true rfl) (fun v w' H locs hp hW => ?_)
    obtain ⟨rfl, rfl⟩ := hp
    have hW : Wd G A s.heap [(h0, .inr (1, [.int mcd, .int mty, .ref mtx, .int mpl, .int mth, .int mln, .ref msc, .int (nI fr), .ref mdr, .int mcm, .int mop, .int mkd, .int (nI b), .int (nI ee), .int mam, .ref mis, .ref mip, .ref msd, .ref mrg, .int mmn, .ref mou])), (mtx, .inl (G.2 2, 120, .inl f)), (mdr, .inl (G.2 0, 400, .inl (upd (upd (upd (upd (upd (upd (upd fd (((6 * (nI fr)) + (0 : Int32)).toNatClampNeg) (0 : Int32)) (((6 * (nI fr)) + (1 : Int32)).toNatClampNeg) (0 : Int32)) (((6 * (nI fr)) + (2 : Int32)).toNatClampNeg) (0 : Int32)) (((6 * (nI fr)) + (3 : Int32)).toNatClampNeg) (0 : Int32)) (((6 * (nI fr)) + (4 : Int32)).toNatClampNeg) (0 : Int32)) (((6 * (nI fr)) + (5 : Int32)).toNatClampNeg) (0 : Int32)) (((6 * (nI fr)) + (1 : Int32)).toNatClampNeg) ((f ((nI b).toNatClampNeg)) - 97))))] H locs := hW
    refine W.eq (g2 := F0 m 44 ls []) rfl ?_
    refine lv_iconst (v := 1) hx hb d_Mo_start_44 (by decide) ?_
    exact Ct.iret hx hb hr hnl hW (by decide) (by decide) d_Mo_start_45 (by
      have e : mSta f mkd b ee mam fd fr mcm mop = (1, upd (upd (upd (upd (upd (upd (upd fd (((6 * (nI fr)) + (0 : Int32)).toNatClampNeg) (0 : Int32)) (((6 * (nI fr)) + (1 : Int32)).toNatClampNeg) (0 : Int32)) (((6 * (nI fr)) + (2 : Int32)).toNatClampNeg) (0 : Int32)) (((6 * (nI fr)) + (3 : Int32)).toNatClampNeg) (0 : Int32)) (((6 * (nI fr)) + (4 : Int32)).toNatClampNeg) (0 : Int32)) (((6 * (nI fr)) + (5 : Int32)).toNatClampNeg) (0 : Int32)) (((6 * (nI fr)) + (1 : Int32)).toNatClampNeg) ((f ((nI b).toNatClampNeg)) - 97), mop) := by unfold mSta; rw [if_neg hf2]
      rw [e]
      exact ⟨rfl, rfl⟩)

def mAF (f : Nat → Int32) (mkd : Int32) (b : Nat) (ee : Nat) (mam : Int32) (fd : Nat → Int32) (fr : Nat) (mcm : Int32) (mop : Int32) : Int32 × (Nat → Int32) × Int32 × Int32 := if (o_Mo_isIt_r mkd b f (43 : Int32)) = 0 then if (o_Mo_isIt_r mkd b f (45 : Int32)) = 0 then if (o_Mo_isIt_r mkd b f (42 : Int32)) = 0 then if (o_Mo_isIt_r mkd b f (60 : Int32)) = 0 then if (o_Mo_isIt_r mkd b f (63 : Int32)) = 0 then ((mAft f mkd b ee mam (upd fd (((6 * (nI fr)) + (0 : Int32)).toNatClampNeg) (0 : Int32)) fr mcm mop).1, (upd fd (((6 * (nI fr)) + (0 : Int32)).toNatClampNeg) (0 : Int32)), (mAft f mkd b ee mam (upd fd (((6 * (nI fr)) + (0 : Int32)).toNatClampNeg) (0 : Int32)) fr mcm mop).2, mcm) else ((mCmp f mkd b ee mam (upd fd (((6 * (nI fr)) + (0 : Int32)).toNatClampNeg) (5 : Int32)) fr mcm mop (1 : Int32) (7 : Int32)).1, (upd fd (((6 * (nI fr)) + (0 : Int32)).toNatClampNeg) (5 : Int32)), nI fr, (mCmp f mkd b ee mam (upd fd (((6 * (nI fr)) + (0 : Int32)).toNatClampNeg) (5 : Int32)) fr mcm mop (1 : Int32) (7 : Int32)).2) else ((mCmp f mkd b ee mam (upd fd (((6 * (nI fr)) + (0 : Int32)).toNatClampNeg) (4 : Int32)) fr mcm mop (1 : Int32) (5 : Int32)).1, (upd fd (((6 * (nI fr)) + (0 : Int32)).toNatClampNeg) (4 : Int32)), nI fr, (mCmp f mkd b ee mam (upd fd (((6 * (nI fr)) + (0 : Int32)).toNatClampNeg) (4 : Int32)) fr mcm mop (1 : Int32) (5 : Int32)).2) else ((mCmp f mkd b ee mam (upd fd (((6 * (nI fr)) + (0 : Int32)).toNatClampNeg) (3 : Int32)) fr mcm mop (0 : Int32) (5 : Int32)).1, (upd fd (((6 * (nI fr)) + (0 : Int32)).toNatClampNeg) (3 : Int32)), nI fr, (mCmp f mkd b ee mam (upd fd (((6 * (nI fr)) + (0 : Int32)).toNatClampNeg) (3 : Int32)) fr mcm mop (0 : Int32) (5 : Int32)).2) else ((mCmp f mkd b ee mam (upd fd (((6 * (nI fr)) + (0 : Int32)).toNatClampNeg) (2 : Int32)) fr mcm mop (0 : Int32) (5 : Int32)).1, (upd fd (((6 * (nI fr)) + (0 : Int32)).toNatClampNeg) (2 : Int32)), nI fr, (mCmp f mkd b ee mam (upd fd (((6 * (nI fr)) + (0 : Int32)).toNatClampNeg) (2 : Int32)) fr mcm mop (0 : Int32) (5 : Int32)).2) else ((mCmp f mkd b ee mam (upd fd (((6 * (nI fr)) + (0 : Int32)).toNatClampNeg) (1 : Int32)) fr mcm mop (0 : Int32) (5 : Int32)).1, (upd fd (((6 * (nI fr)) + (0 : Int32)).toNatClampNeg) (1 : Int32)), nI fr, (mCmp f mkd b ee mam (upd fd (((6 * (nI fr)) + (0 : Int32)).toNatClampNeg) (1 : Int32)) fr mcm mop (0 : Int32) (5 : Int32)).2)
abbrev rm_Mo_afterFirst : Room := { frames := 2, cells := 0, slots := 0, locals := 41 }
set_option maxHeartbeats 4000000 in
set_option maxRecDepth 100000 in
theorem c_Mo_afterFirst (l : Launch) (G : Gt) (h0 : Nat) (mcd : Int32) (mty : Int32) (mtx : Nat) (mpl : Int32) (mth : Int32) (mln : Int32) (msc : Nat) (mdr : Nat) (mcm : Int32) (mop : Int32) (mkd : Int32) (mam : Int32) (mis : Nat) (mip : Nat) (msd : Nat) (mrg : Nat) (mmn : Int32) (mou : Nat) (b : Nat) (ee : Nat) (fr : Nat) (f : Nat → Int32) (fd : Nat → Int32) (hbe : b ≤ ee) (hee : ee ≤ 120) (hb0 : ¬ mkd = 0 → b < 120) (hfr : fr ≤ 60) : Ct l G y_Mo_afterFirst b_Mo_afterFirst 2 (some .int) rm_Mo_afterFirst [.ref h0] [(h0, .inr (1, [.int mcd, .int mty, .ref mtx, .int mpl, .int mth, .int mln, .ref msc, .int (nI fr), .ref mdr, .int mcm, .int mop, .int mkd, .int (nI b), .int (nI ee), .int mam, .ref mis, .ref mip, .ref msd, .ref mrg, .int mmn, .ref mou])), (mtx, .inl (G.2 2, 120, .inl f)), (mdr, .inl (G.2 0, 400, .inl fd))] 0 0 (fun v w' => v = some (.int ((mAF f mkd b ee mam fd fr mcm mop).1)) ∧ w' = [(h0, .inr (1, [.int mcd, .int mty, .ref mtx, .int mpl, .int mth, .int mln, .ref msc, .int ((mAF f mkd b ee mam fd fr mcm mop).2.2.1), .ref mdr, .int ((mAF f mkd b ee mam fd fr mcm mop).2.2.2), .int mop, .int mkd, .int (nI b), .int (nI ee), .int mam, .ref mis, .ref mip, .ref msd, .ref mrg, .int mmn, .ref mou])), (mtx, .inl (G.2 2, 120, .inl f)), (mdr, .inl (G.2 0, 400, .inl ((mAF f mkd b ee mam fd fr mcm mop).2.1)))]) := by
  refine Ct.of (by decide) (Nat.le_of_ble_eq_true rfl) (fun p e s m args below meth c A ls H locs hx hb hml hr hnl hown hts hnm hK hA hl hW => ?_)
  have hl : lv_has ls 2 [(0, .ref h0)] := hl
  refine lv_aload_n hx hb d_Mo_afterFirst_0 rfl (lv_at hl 0 rfl) ?_
  refine lv_bipush (v := 43) hx hb d_Mo_afterFirst_1 (by decide) ?_
  refine Ct.callV (As := [.int 43]) (rest := []) hx hb hml hown hts hK hA hl.1 hW (c_Mo_isItR l G h0 mcd mty mtx mpl mth mln msc (nI fr) mdr mcm mop mkd mam mis mip msd mrg mmn mou b ee f (43 : Int32) (by first | assumption | omega | decide)) (cwV 1 hts (good_V w_ml_Mo_92 w_im_Mo_isIt w_se_Mo_isIt w_ini_Mo w_code_Mo_isIt) rfl rfl rfl yd_Mo_isIt ⟨by decide, by decide⟩) [0, 1] (by decide) rfl (ci := 1) (r := vr_Mo) rfl rfl rfl rfl rfl (Nat.le_of_ble_eq_true rfl) d_Mo_afterFirst_3 ⟨by decide, by decide⟩ (fun v w' hp => by obtain ⟨-, rfl⟩ := hp; exact Nat.le_of_ble_eq_true rfl) (fun v w' H locs hp hW => ?_)
  obtain ⟨rfl, rfl⟩ := hp
  have hW : Wd G A s.heap [(h0, .inr (1, [.int mcd, .int mty, .ref mtx, .int mpl, .int mth, .int mln, .ref msc, .int (nI fr), .ref mdr, .int mcm, .int mop, .int mkd, .int (nI b), .int (nI ee), .int mam, .ref mis, .ref mip, .ref msd, .ref mrg, .int mmn, .ref mou])), (mtx, .inl (G.2 2, 120, .inl f)), (mdr, .inl (G.2 0, 400, .inl fd))] H locs := hW
  refine W.eq (g2 := F0 m 6 ls [.int (o_Mo_isIt_r mkd b f (43 : Int32))]) rfl ?_
  refine lv_if_eq (tgt := 13) hx hb d_Mo_afterFirst_6 rfl (fun ht1 => ?_) (fun hf2 => ?_)
  · refine lv_aload_n hx hb d_Mo_afterFirst_13 rfl (lv_at hl 0 rfl) ?_
    refine lv_bipush (v := 45) hx hb d_Mo_afterFirst_14 (by decide) ?_
    refine Ct.callV (As := [.int 45]) (rest := []) hx hb hml hown hts hK hA hl.1 hW (c_Mo_isItR l G h0 mcd mty mtx mpl mth mln msc (nI fr) mdr mcm mop mkd mam mis mip msd mrg mmn mou b ee f (45 : Int32) (by first | assumption | omega | decide)) (cwV 1 hts (good_V w_ml_Mo_92 w_im_Mo_isIt w_se_Mo_isIt w_ini_Mo w_code_Mo_isIt) rfl rfl rfl yd_Mo_isIt ⟨by decide, by decide⟩) [0, 1] (by decide) rfl (ci := 1) (r := vr_Mo) rfl rfl rfl rfl rfl (Nat.le_of_ble_eq_true rfl) d_Mo_afterFirst_16 ⟨by decide, by decide⟩ (fun v w' hp => by obtain ⟨-, rfl⟩ := hp; exact Nat.le_of_ble_eq_true rfl) (fun v w' H locs hp hW => ?_)
    obtain ⟨rfl, rfl⟩ := hp
    have hW : Wd G A s.heap [(h0, .inr (1, [.int mcd, .int mty, .ref mtx, .int mpl, .int mth, .int mln, .ref msc, .int (nI fr), .ref mdr, .int mcm, .int mop, .int mkd, .int (nI b), .int (nI ee), .int mam, .ref mis, .ref mip, .ref msd, .ref mrg, .int mmn, .ref mou])), (mtx, .inl (G.2 2, 120, .inl f)), (mdr, .inl (G.2 0, 400, .inl fd))] H locs := hW
    refine W.eq (g2 := F0 m 19 ls [.int (o_Mo_isIt_r mkd b f (45 : Int32))]) rfl ?_
    refine lv_if_eq (tgt := 26) hx hb d_Mo_afterFirst_19 rfl (fun ht3 => ?_) (fun hf4 => ?_)
    · refine lv_aload_n hx hb d_Mo_afterFirst_26 rfl (lv_at hl 0 rfl) ?_
      refine lv_bipush (v := 42) hx hb d_Mo_afterFirst_27 (by decide) ?_
      refine Ct.callV (As := [.int 42]) (rest := []) hx hb hml hown hts hK hA hl.1 hW (c_Mo_isItR l G h0 mcd mty mtx mpl mth mln msc (nI fr) mdr mcm mop mkd mam mis mip msd mrg mmn mou b ee f (42 : Int32) (by first | assumption | omega | decide)) (cwV 1 hts (good_V w_ml_Mo_92 w_im_Mo_isIt w_se_Mo_isIt w_ini_Mo w_code_Mo_isIt) rfl rfl rfl yd_Mo_isIt ⟨by decide, by decide⟩) [0, 1] (by decide) rfl (ci := 1) (r := vr_Mo) rfl rfl rfl rfl rfl (Nat.le_of_ble_eq_true rfl) d_Mo_afterFirst_29 ⟨by decide, by decide⟩ (fun v w' hp => by obtain ⟨-, rfl⟩ := hp; exact Nat.le_of_ble_eq_true rfl) (fun v w' H locs hp hW => ?_)
      obtain ⟨rfl, rfl⟩ := hp
      have hW : Wd G A s.heap [(h0, .inr (1, [.int mcd, .int mty, .ref mtx, .int mpl, .int mth, .int mln, .ref msc, .int (nI fr), .ref mdr, .int mcm, .int mop, .int mkd, .int (nI b), .int (nI ee), .int mam, .ref mis, .ref mip, .ref msd, .ref mrg, .int mmn, .ref mou])), (mtx, .inl (G.2 2, 120, .inl f)), (mdr, .inl (G.2 0, 400, .inl fd))] H locs := hW
      refine W.eq (g2 := F0 m 32 ls [.int (o_Mo_isIt_r mkd b f (42 : Int32))]) rfl ?_
      refine lv_if_eq (tgt := 39) hx hb d_Mo_afterFirst_32 rfl (fun ht5 => ?_) (fun hf6 => ?_)
      · refine lv_aload_n hx hb d_Mo_afterFirst_39 rfl (lv_at hl 0 rfl) ?_
        refine lv_bipush (v := 60) hx hb d_Mo_afterFirst_40 (by decide) ?_
        refine Ct.callV (As := [.int 60]) (rest := []) hx hb hml hown hts hK hA hl.1 hW (c_Mo_isItR l G h0 mcd mty mtx mpl mth mln msc (nI fr) mdr mcm mop mkd mam mis mip msd mrg mmn mou b ee f (60 : Int32) (by first | assumption | omega | decide)) (cwV 1 hts (good_V w_ml_Mo_92 w_im_Mo_isIt w_se_Mo_isIt w_ini_Mo w_code_Mo_isIt) rfl rfl rfl yd_Mo_isIt ⟨by decide, by decide⟩) [0, 1] (by decide) rfl (ci := 1) (r := vr_Mo) rfl rfl rfl rfl rfl (Nat.le_of_ble_eq_true rfl) d_Mo_afterFirst_42 ⟨by decide, by decide⟩ (fun v w' hp => by obtain ⟨-, rfl⟩ := hp; exact Nat.le_of_ble_eq_true rfl) (fun v w' H locs hp hW => ?_)
        obtain ⟨rfl, rfl⟩ := hp
        have hW : Wd G A s.heap [(h0, .inr (1, [.int mcd, .int mty, .ref mtx, .int mpl, .int mth, .int mln, .ref msc, .int (nI fr), .ref mdr, .int mcm, .int mop, .int mkd, .int (nI b), .int (nI ee), .int mam, .ref mis, .ref mip, .ref msd, .ref mrg, .int mmn, .ref mou])), (mtx, .inl (G.2 2, 120, .inl f)), (mdr, .inl (G.2 0, 400, .inl fd))] H locs := hW
        refine W.eq (g2 := F0 m 45 ls [.int (o_Mo_isIt_r mkd b f (60 : Int32))]) rfl ?_
        refine lv_if_eq (tgt := 52) hx hb d_Mo_afterFirst_45 rfl (fun ht7 => ?_) (fun hf8 => ?_)
        · refine lv_aload_n hx hb d_Mo_afterFirst_52 rfl (lv_at hl 0 rfl) ?_
          refine lv_bipush (v := 63) hx hb d_Mo_afterFirst_53 (by decide) ?_
          refine Ct.callV (As := [.int 63]) (rest := []) hx hb hml hown hts hK hA hl.1 hW (c_Mo_isItR l G h0 mcd mty mtx mpl mth mln msc (nI fr) mdr mcm mop mkd mam mis mip msd mrg mmn mou b ee f (63 : Int32) (by first | assumption | omega | decide)) (cwV 1 hts (good_V w_ml_Mo_92 w_im_Mo_isIt w_se_Mo_isIt w_ini_Mo w_code_Mo_isIt) rfl rfl rfl yd_Mo_isIt ⟨by decide, by decide⟩) [0, 1] (by decide) rfl (ci := 1) (r := vr_Mo) rfl rfl rfl rfl rfl (Nat.le_of_ble_eq_true rfl) d_Mo_afterFirst_55 ⟨by decide, by decide⟩ (fun v w' hp => by obtain ⟨-, rfl⟩ := hp; exact Nat.le_of_ble_eq_true rfl) (fun v w' H locs hp hW => ?_)
          obtain ⟨rfl, rfl⟩ := hp
          have hW : Wd G A s.heap [(h0, .inr (1, [.int mcd, .int mty, .ref mtx, .int mpl, .int mth, .int mln, .ref msc, .int (nI fr), .ref mdr, .int mcm, .int mop, .int mkd, .int (nI b), .int (nI ee), .int mam, .ref mis, .ref mip, .ref msd, .ref mrg, .int mmn, .ref mou])), (mtx, .inl (G.2 2, 120, .inl f)), (mdr, .inl (G.2 0, 400, .inl fd))] H locs := hW
          refine W.eq (g2 := F0 m 58 ls [.int (o_Mo_isIt_r mkd b f (63 : Int32))]) rfl ?_
          refine lv_if_eq (tgt := 65) hx hb d_Mo_afterFirst_58 rfl (fun ht9 => ?_) (fun hf10 => ?_)
          · refine lv_iconst (v := 0) hx hb d_Mo_afterFirst_65 (by decide) ?_
            refine lv_istore_n (lv' := [(1, .int 0), (0, .ref h0)]) hx hb d_Mo_afterFirst_66 rfl hl (by decide) rfl (fun ls hl => ?_)
            refine lv_aload_n hx hb d_Mo_afterFirst_67 rfl (lv_at hl 1 rfl) ?_
            refine lv_iconst (v := 0) hx hb d_Mo_afterFirst_68 (by decide) ?_
            refine lv_iload_n hx hb d_Mo_afterFirst_69 rfl (lv_at hl 0 rfl) ?_
            refine Ct.callV (As := [.int 0, .int 0]) (rest := []) hx hb hml hown hts hK hA hl.1 hW (c_Mo_put2 l G h0 mcd mty mtx mpl mth mln msc (nI fr) mdr mcm mop mkd (nI b) (nI ee) mam mis mip msd mrg mmn mou fd (0 : Int32) (0 : Int32) (put_in (k := 0) hfr (by decide))) (cwV 2 hts (good_V w_ml_Mo_77 w_im_Mo_put w_se_Mo_put w_ini_Mo w_code_Mo_put) rfl rfl rfl yd_Mo_put ⟨by decide, by decide⟩) [0, 2] (by decide) rfl (ci := 1) (r := vr_Mo) rfl rfl rfl rfl rfl (Nat.le_of_ble_eq_true rfl) d_Mo_afterFirst_70 ⟨by decide, by decide⟩ (fun v w' hp => by obtain ⟨-, rfl⟩ := hp; exact Nat.le_of_ble_eq_true rfl) (fun v w' H locs hp hW => ?_)
            obtain ⟨rfl, rfl⟩ := hp
            have hW : Wd G A s.heap [(h0, .inr (1, [.int mcd, .int mty, .ref mtx, .int mpl, .int mth, .int mln, .ref msc, .int (nI fr), .ref mdr, .int mcm, .int mop, .int mkd, .int (nI b), .int (nI ee), .int mam, .ref mis, .ref mip, .ref msd, .ref mrg, .int mmn, .ref mou])), (mtx, .inl (G.2 2, 120, .inl f)), (mdr, .inl (G.2 0, 400, .inl (upd fd (((6 * (nI fr)) + (0 : Int32)).toNatClampNeg) (0 : Int32))))] H locs := hW
            refine W.eq (g2 := F0 m 73 ls []) rfl ?_
            refine lv_iload_n hx hb d_Mo_afterFirst_73 rfl (lv_at hl 0 rfl) ?_
            refine lv_if_ne (tgt := 82) hx hb d_Mo_afterFirst_74 rfl (fun hz => absurd (by decide) hz) (fun _ => ?_)
            refine lv_aload_n hx hb d_Mo_afterFirst_77 rfl (lv_at hl 1 rfl) ?_
            refine Ct.callV (As := []) (rest := []) hx hb hml hown hts hK hA hl.1 hW (c_Mo_after l G h0 mcd mty mtx mpl mth mln msc mdr mcm mop mkd mam mis mip msd mrg mmn mou b ee fr f (upd fd (((6 * (nI fr)) + (0 : Int32)).toNatClampNeg) (0 : Int32)) (by first | assumption | omega | decide) (by first | assumption | omega | decide) (by first | assumption | omega | decide) (by first | assumption | omega | decide)) (cwV 0 hts (good_V w_ml_Mo_98 w_im_Mo_after w_se_Mo_after w_ini_Mo w_code_Mo_after) rfl rfl rfl yd_Mo_after ⟨by decide, by decide⟩) [0, 1, 2] (by decide) rfl (ci := 1) (r := vr_Mo) rfl rfl rfl rfl rfl (Nat.le_of_ble_eq_true rfl) d_Mo_afterFirst_78 ⟨by decide, by decide⟩ (fun v w' hp => by obtain ⟨-, rfl⟩ := hp; exact Nat.le_of_ble_eq_true rfl) (fun v w' H locs hp hW => ?_)
            obtain ⟨rfl, rfl⟩ := hp
            have hW : Wd G A s.heap [(h0, .inr (1, [.int mcd, .int mty, .ref mtx, .int mpl, .int mth, .int mln, .ref msc, .int ((mAft f mkd b ee mam (upd fd (((6 * (nI fr)) + (0 : Int32)).toNatClampNeg) (0 : Int32)) fr mcm mop).2), .ref mdr, .int mcm, .int mop, .int mkd, .int (nI b), .int (nI ee), .int mam, .ref mis, .ref mip, .ref msd, .ref mrg, .int mmn, .ref mou])), (mtx, .inl (G.2 2, 120, .inl f)), (mdr, .inl (G.2 0, 400, .inl (upd fd (((6 * (nI fr)) + (0 : Int32)).toNatClampNeg) (0 : Int32))))] H locs := hW
            refine W.eq (g2 := F0 m 81 ls [.int ((mAft f mkd b ee mam (upd fd (((6 * (nI fr)) + (0 : Int32)).toNatClampNeg) (0 : Int32)) fr mcm mop).1)]) rfl ?_
            exact Ct.iret hx hb hr hnl hW (by decide) (by decide) d_Mo_afterFirst_81 (by
      have e : mAF f mkd b ee mam fd fr mcm mop = ((mAft f mkd b ee mam (upd fd (((6 * (nI fr)) + (0 : Int32)).toNatClampNeg) (0 : Int32)) fr mcm mop).1, (upd fd (((6 * (nI fr)) + (0 : Int32)).toNatClampNeg) (0 : Int32)), (mAft f mkd b ee mam (upd fd (((6 * (nI fr)) + (0 : Int32)).toNatClampNeg) (0 : Int32)) fr mcm mop).2, mcm) := by unfold mAF; rw [if_pos ht1, if_pos ht3, if_pos ht5, if_pos ht7, if_pos ht9]
      rw [e]
      exact ⟨rfl, rfl⟩)
          · refine lv_iconst (v := 5) hx hb d_Mo_afterFirst_61 (by decide) ?_
            refine lv_goto (tgt := 66) hx hb d_Mo_afterFirst_62 rfl ?_
            refine lv_istore_n (lv' := [(1, .int 5), (0, .ref h0)]) hx hb d_Mo_afterFirst_66 rfl hl (by decide) rfl (fun ls hl => ?_)
            refine lv_aload_n hx hb d_Mo_afterFirst_67 rfl (lv_at hl 1 rfl) ?_
            refine lv_iconst (v := 0) hx hb d_Mo_afterFirst_68 (by decide) ?_
            refine lv_iload_n hx hb d_Mo_afterFirst_69 rfl (lv_at hl 0 rfl) ?_
            refine Ct.callV (As := [.int 0, .int 5]) (rest := []) hx hb hml hown hts hK hA hl.1 hW (c_Mo_put2 l G h0 mcd mty mtx mpl mth mln msc (nI fr) mdr mcm mop mkd (nI b) (nI ee) mam mis mip msd mrg mmn mou fd (0 : Int32) (5 : Int32) (put_in (k := 0) hfr (by decide))) (cwV 2 hts (good_V w_ml_Mo_77 w_im_Mo_put w_se_Mo_put w_ini_Mo w_code_Mo_put) rfl rfl rfl yd_Mo_put ⟨by decide, by decide⟩) [0, 2] (by decide) rfl (ci := 1) (r := vr_Mo) rfl rfl rfl rfl rfl (Nat.le_of_ble_eq_true rfl) d_Mo_afterFirst_70 ⟨by decide, by decide⟩ (fun v w' hp => by obtain ⟨-, rfl⟩ := hp; exact Nat.le_of_ble_eq_true rfl) (fun v w' H locs hp hW => ?_)
            obtain ⟨rfl, rfl⟩ := hp
            have hW : Wd G A s.heap [(h0, .inr (1, [.int mcd, .int mty, .ref mtx, .int mpl, .int mth, .int mln, .ref msc, .int (nI fr), .ref mdr, .int mcm, .int mop, .int mkd, .int (nI b), .int (nI ee), .int mam, .ref mis, .ref mip, .ref msd, .ref mrg, .int mmn, .ref mou])), (mtx, .inl (G.2 2, 120, .inl f)), (mdr, .inl (G.2 0, 400, .inl (upd fd (((6 * (nI fr)) + (0 : Int32)).toNatClampNeg) (5 : Int32))))] H locs := hW
            refine W.eq (g2 := F0 m 73 ls []) rfl ?_
            refine lv_iload_n hx hb d_Mo_afterFirst_73 rfl (lv_at hl 0 rfl) ?_
            refine lv_if_ne (tgt := 82) hx hb d_Mo_afterFirst_74 rfl (fun _ => ?_) (fun hz => absurd hz (by decide))
            refine lv_iload_n hx hb d_Mo_afterFirst_82 rfl (lv_at hl 0 rfl) ?_
            refine lv_iconst (v := 5) hx hb d_Mo_afterFirst_83 (by decide) ?_
            refine lv_icmp_ne (tgt := 97) hx hb d_Mo_afterFirst_84 rfl (fun hz => absurd (by decide) hz) (fun _ => ?_)
            refine lv_aload_n hx hb d_Mo_afterFirst_87 rfl (lv_at hl 1 rfl) ?_
            refine lv_iconst (v := 1) hx hb d_Mo_afterFirst_88 (by decide) ?_
            refine lv_bipush (v := 7) hx hb d_Mo_afterFirst_89 (by decide) ?_
            refine Ct.callV (As := [.int 1, .int 7]) (rest := []) hx hb hml hown hts hK hA hl.1 hW (c_Mo_compared l G h0 mcd mty mtx mpl mth mln msc mdr mcm mop mkd mam mis mip msd mrg mmn mou b ee fr f (upd fd (((6 * (nI fr)) + (0 : Int32)).toNatClampNeg) (5 : Int32)) (1 : Int32) (7 : Int32) (by first | assumption | omega | decide) (by first | assumption | omega | decide) (by first | assumption | omega | decide) (by first | assumption | omega | decide)) (cwV 2 hts (good_V w_ml_Mo_102 w_im_Mo_compared w_se_Mo_compared w_ini_Mo w_code_Mo_compared) rfl rfl rfl yd_Mo_compared ⟨by decide, by decide⟩) [0, 1, 2] (by decide) rfl (ci := 1) (r := vr_Mo) rfl rfl rfl rfl rfl (Nat.le_of_ble_eq_true rfl) d_Mo_afterFirst_91 ⟨by decide, by decide⟩ (fun v w' hp => by obtain ⟨-, rfl⟩ := hp; exact Nat.le_of_ble_eq_true rfl) (fun v w' H locs hp hW => ?_)
            obtain ⟨rfl, rfl⟩ := hp
            have hW : Wd G A s.heap [(h0, .inr (1, [.int mcd, .int mty, .ref mtx, .int mpl, .int mth, .int mln, .ref msc, .int (nI fr), .ref mdr, .int ((mCmp f mkd b ee mam (upd fd (((6 * (nI fr)) + (0 : Int32)).toNatClampNeg) (5 : Int32)) fr mcm mop (1 : Int32) (7 : Int32)).2), .int mop, .int mkd, .int (nI b), .int (nI ee), .int mam, .ref mis, .ref mip, .ref msd, .ref mrg, .int mmn, .ref mou])), (mtx, .inl (G.2 2, 120, .inl f)), (mdr, .inl (G.2 0, 400, .inl (upd fd (((6 * (nI fr)) + (0 : Int32)).toNatClampNeg) (5 : Int32))))] H locs := hW
            refine W.eq (g2 := F0 m 94 ls [.int ((mCmp f mkd b ee mam (upd fd (((6 * (nI fr)) + (0 : Int32)).toNatClampNeg) (5 : Int32)) fr mcm mop (1 : Int32) (7 : Int32)).1)]) rfl ?_
            refine lv_goto (tgt := 112) hx hb d_Mo_afterFirst_94 rfl ?_
            exact Ct.iret hx hb hr hnl hW (by decide) (by decide) d_Mo_afterFirst_112 (by
      have e : mAF f mkd b ee mam fd fr mcm mop = ((mCmp f mkd b ee mam (upd fd (((6 * (nI fr)) + (0 : Int32)).toNatClampNeg) (5 : Int32)) fr mcm mop (1 : Int32) (7 : Int32)).1, (upd fd (((6 * (nI fr)) + (0 : Int32)).toNatClampNeg) (5 : Int32)), nI fr, (mCmp f mkd b ee mam (upd fd (((6 * (nI fr)) + (0 : Int32)).toNatClampNeg) (5 : Int32)) fr mcm mop (1 : Int32) (7 : Int32)).2) := by unfold mAF; rw [if_pos ht1, if_pos ht3, if_pos ht5, if_pos ht7, if_neg hf10]
      rw [e]
      exact ⟨rfl, rfl⟩)
        · refine lv_iconst (v := 4) hx hb d_Mo_afterFirst_48 (by decide) ?_
          refine lv_goto (tgt := 66) hx hb d_Mo_afterFirst_49 rfl ?_
          refine lv_istore_n (lv' := [(1, .int 4), (0, .ref h0)]) hx hb d_Mo_afterFirst_66 rfl hl (by decide) rfl (fun ls hl => ?_)
          refine lv_aload_n hx hb d_Mo_afterFirst_67 rfl (lv_at hl 1 rfl) ?_
          refine lv_iconst (v := 0) hx hb d_Mo_afterFirst_68 (by decide) ?_
          refine lv_iload_n hx hb d_Mo_afterFirst_69 rfl (lv_at hl 0 rfl) ?_
          refine Ct.callV (As := [.int 0, .int 4]) (rest := []) hx hb hml hown hts hK hA hl.1 hW (c_Mo_put2 l G h0 mcd mty mtx mpl mth mln msc (nI fr) mdr mcm mop mkd (nI b) (nI ee) mam mis mip msd mrg mmn mou fd (0 : Int32) (4 : Int32) (put_in (k := 0) hfr (by decide))) (cwV 2 hts (good_V w_ml_Mo_77 w_im_Mo_put w_se_Mo_put w_ini_Mo w_code_Mo_put) rfl rfl rfl yd_Mo_put ⟨by decide, by decide⟩) [0, 2] (by decide) rfl (ci := 1) (r := vr_Mo) rfl rfl rfl rfl rfl (Nat.le_of_ble_eq_true rfl) d_Mo_afterFirst_70 ⟨by decide, by decide⟩ (fun v w' hp => by obtain ⟨-, rfl⟩ := hp; exact Nat.le_of_ble_eq_true rfl) (fun v w' H locs hp hW => ?_)
          obtain ⟨rfl, rfl⟩ := hp
          have hW : Wd G A s.heap [(h0, .inr (1, [.int mcd, .int mty, .ref mtx, .int mpl, .int mth, .int mln, .ref msc, .int (nI fr), .ref mdr, .int mcm, .int mop, .int mkd, .int (nI b), .int (nI ee), .int mam, .ref mis, .ref mip, .ref msd, .ref mrg, .int mmn, .ref mou])), (mtx, .inl (G.2 2, 120, .inl f)), (mdr, .inl (G.2 0, 400, .inl (upd fd (((6 * (nI fr)) + (0 : Int32)).toNatClampNeg) (4 : Int32))))] H locs := hW
          refine W.eq (g2 := F0 m 73 ls []) rfl ?_
          refine lv_iload_n hx hb d_Mo_afterFirst_73 rfl (lv_at hl 0 rfl) ?_
          refine lv_if_ne (tgt := 82) hx hb d_Mo_afterFirst_74 rfl (fun _ => ?_) (fun hz => absurd hz (by decide))
          refine lv_iload_n hx hb d_Mo_afterFirst_82 rfl (lv_at hl 0 rfl) ?_
          refine lv_iconst (v := 5) hx hb d_Mo_afterFirst_83 (by decide) ?_
          refine lv_icmp_ne (tgt := 97) hx hb d_Mo_afterFirst_84 rfl (fun _ => ?_) (fun hz => absurd hz (by decide))
          refine lv_aload_n hx hb d_Mo_afterFirst_97 rfl (lv_at hl 1 rfl) ?_
          refine lv_iload_n hx hb d_Mo_afterFirst_98 rfl (lv_at hl 0 rfl) ?_
          refine lv_iconst (v := 4) hx hb d_Mo_afterFirst_99 (by decide) ?_
          refine lv_icmp_ne (tgt := 107) hx hb d_Mo_afterFirst_100 rfl (fun hz => absurd (by decide) hz) (fun _ => ?_)
          refine lv_iconst (v := 1) hx hb d_Mo_afterFirst_103 (by decide) ?_
          refine lv_goto (tgt := 108) hx hb d_Mo_afterFirst_104 rfl ?_
          refine lv_iconst (v := 5) hx hb d_Mo_afterFirst_108 (by decide) ?_
          refine Ct.callV (As := [.int 1, .int 5]) (rest := []) hx hb hml hown hts hK hA hl.1 hW (c_Mo_compared l G h0 mcd mty mtx mpl mth mln msc mdr mcm mop mkd mam mis mip msd mrg mmn mou b ee fr f (upd fd (((6 * (nI fr)) + (0 : Int32)).toNatClampNeg) (4 : Int32)) (1 : Int32) (5 : Int32) (by first | assumption | omega | decide) (by first | assumption | omega | decide) (by first | assumption | omega | decide) (by first | assumption | omega | decide)) (cwV 2 hts (good_V w_ml_Mo_102 w_im_Mo_compared w_se_Mo_compared w_ini_Mo w_code_Mo_compared) rfl rfl rfl yd_Mo_compared ⟨by decide, by decide⟩) [0, 1, 2] (by decide) rfl (ci := 1) (r := vr_Mo) rfl rfl rfl rfl rfl (Nat.le_of_ble_eq_true rfl) d_Mo_afterFirst_109 ⟨by decide, by decide⟩ (fun v w' hp => by obtain ⟨-, rfl⟩ := hp; exact Nat.le_of_ble_eq_true rfl) (fun v w' H locs hp hW => ?_)
          obtain ⟨rfl, rfl⟩ := hp
          have hW : Wd G A s.heap [(h0, .inr (1, [.int mcd, .int mty, .ref mtx, .int mpl, .int mth, .int mln, .ref msc, .int (nI fr), .ref mdr, .int ((mCmp f mkd b ee mam (upd fd (((6 * (nI fr)) + (0 : Int32)).toNatClampNeg) (4 : Int32)) fr mcm mop (1 : Int32) (5 : Int32)).2), .int mop, .int mkd, .int (nI b), .int (nI ee), .int mam, .ref mis, .ref mip, .ref msd, .ref mrg, .int mmn, .ref mou])), (mtx, .inl (G.2 2, 120, .inl f)), (mdr, .inl (G.2 0, 400, .inl (upd fd (((6 * (nI fr)) + (0 : Int32)).toNatClampNeg) (4 : Int32))))] H locs := hW
          refine W.eq (g2 := F0 m 112 ls [.int ((mCmp f mkd b ee mam (upd fd (((6 * (nI fr)) + (0 : Int32)).toNatClampNeg) (4 : Int32)) fr mcm mop (1 : Int32) (5 : Int32)).1)]) rfl ?_
          exact Ct.iret hx hb hr hnl hW (by decide) (by decide) d_Mo_afterFirst_112 (by
      have e : mAF f mkd b ee mam fd fr mcm mop = ((mCmp f mkd b ee mam (upd fd (((6 * (nI fr)) + (0 : Int32)).toNatClampNeg) (4 : Int32)) fr mcm mop (1 : Int32) (5 : Int32)).1, (upd fd (((6 * (nI fr)) + (0 : Int32)).toNatClampNeg) (4 : Int32)), nI fr, (mCmp f mkd b ee mam (upd fd (((6 * (nI fr)) + (0 : Int32)).toNatClampNeg) (4 : Int32)) fr mcm mop (1 : Int32) (5 : Int32)).2) := by unfold mAF; rw [if_pos ht1, if_pos ht3, if_pos ht5, if_neg hf8]
      rw [e]
      exact ⟨rfl, rfl⟩)
      · refine lv_iconst (v := 3) hx hb d_Mo_afterFirst_35 (by decide) ?_
        refine lv_goto (tgt := 66) hx hb d_Mo_afterFirst_36 rfl ?_
        refine lv_istore_n (lv' := [(1, .int 3), (0, .ref h0)]) hx hb d_Mo_afterFirst_66 rfl hl (by decide) rfl (fun ls hl => ?_)
        refine lv_aload_n hx hb d_Mo_afterFirst_67 rfl (lv_at hl 1 rfl) ?_
        refine lv_iconst (v := 0) hx hb d_Mo_afterFirst_68 (by decide) ?_
        refine lv_iload_n hx hb d_Mo_afterFirst_69 rfl (lv_at hl 0 rfl) ?_
        refine Ct.callV (As := [.int 0, .int 3]) (rest := []) hx hb hml hown hts hK hA hl.1 hW (c_Mo_put2 l G h0 mcd mty mtx mpl mth mln msc (nI fr) mdr mcm mop mkd (nI b) (nI ee) mam mis mip msd mrg mmn mou fd (0 : Int32) (3 : Int32) (put_in (k := 0) hfr (by decide))) (cwV 2 hts (good_V w_ml_Mo_77 w_im_Mo_put w_se_Mo_put w_ini_Mo w_code_Mo_put) rfl rfl rfl yd_Mo_put ⟨by decide, by decide⟩) [0, 2] (by decide) rfl (ci := 1) (r := vr_Mo) rfl rfl rfl rfl rfl (Nat.le_of_ble_eq_true rfl) d_Mo_afterFirst_70 ⟨by decide, by decide⟩ (fun v w' hp => by obtain ⟨-, rfl⟩ := hp; exact Nat.le_of_ble_eq_true rfl) (fun v w' H locs hp hW => ?_)
        obtain ⟨rfl, rfl⟩ := hp
        have hW : Wd G A s.heap [(h0, .inr (1, [.int mcd, .int mty, .ref mtx, .int mpl, .int mth, .int mln, .ref msc, .int (nI fr), .ref mdr, .int mcm, .int mop, .int mkd, .int (nI b), .int (nI ee), .int mam, .ref mis, .ref mip, .ref msd, .ref mrg, .int mmn, .ref mou])), (mtx, .inl (G.2 2, 120, .inl f)), (mdr, .inl (G.2 0, 400, .inl (upd fd (((6 * (nI fr)) + (0 : Int32)).toNatClampNeg) (3 : Int32))))] H locs := hW
        refine W.eq (g2 := F0 m 73 ls []) rfl ?_
        refine lv_iload_n hx hb d_Mo_afterFirst_73 rfl (lv_at hl 0 rfl) ?_
        refine lv_if_ne (tgt := 82) hx hb d_Mo_afterFirst_74 rfl (fun _ => ?_) (fun hz => absurd hz (by decide))
        refine lv_iload_n hx hb d_Mo_afterFirst_82 rfl (lv_at hl 0 rfl) ?_
        refine lv_iconst (v := 5) hx hb d_Mo_afterFirst_83 (by decide) ?_
        refine lv_icmp_ne (tgt := 97) hx hb d_Mo_afterFirst_84 rfl (fun _ => ?_) (fun hz => absurd hz (by decide))
        refine lv_aload_n hx hb d_Mo_afterFirst_97 rfl (lv_at hl 1 rfl) ?_
        refine lv_iload_n hx hb d_Mo_afterFirst_98 rfl (lv_at hl 0 rfl) ?_
        refine lv_iconst (v := 4) hx hb d_Mo_afterFirst_99 (by decide) ?_
        refine lv_icmp_ne (tgt := 107) hx hb d_Mo_afterFirst_100 rfl (fun _ => ?_) (fun hz => absurd hz (by decide))
        refine lv_iconst (v := 0) hx hb d_Mo_afterFirst_107 (by decide) ?_
        refine lv_iconst (v := 5) hx hb d_Mo_afterFirst_108 (by decide) ?_
        refine Ct.callV (As := [.int 0, .int 5]) (rest := []) hx hb hml hown hts hK hA hl.1 hW (c_Mo_compared l G h0 mcd mty mtx mpl mth mln msc mdr mcm mop mkd mam mis mip msd mrg mmn mou b ee fr f (upd fd (((6 * (nI fr)) + (0 : Int32)).toNatClampNeg) (3 : Int32)) (0 : Int32) (5 : Int32) (by first | assumption | omega | decide) (by first | assumption | omega | decide) (by first | assumption | omega | decide) (by first | assumption | omega | decide)) (cwV 2 hts (good_V w_ml_Mo_102 w_im_Mo_compared w_se_Mo_compared w_ini_Mo w_code_Mo_compared) rfl rfl rfl yd_Mo_compared ⟨by decide, by decide⟩) [0, 1, 2] (by decide) rfl (ci := 1) (r := vr_Mo) rfl rfl rfl rfl rfl (Nat.le_of_ble_eq_true rfl) d_Mo_afterFirst_109 ⟨by decide, by decide⟩ (fun v w' hp => by obtain ⟨-, rfl⟩ := hp; exact Nat.le_of_ble_eq_true rfl) (fun v w' H locs hp hW => ?_)
        obtain ⟨rfl, rfl⟩ := hp
        have hW : Wd G A s.heap [(h0, .inr (1, [.int mcd, .int mty, .ref mtx, .int mpl, .int mth, .int mln, .ref msc, .int (nI fr), .ref mdr, .int ((mCmp f mkd b ee mam (upd fd (((6 * (nI fr)) + (0 : Int32)).toNatClampNeg) (3 : Int32)) fr mcm mop (0 : Int32) (5 : Int32)).2), .int mop, .int mkd, .int (nI b), .int (nI ee), .int mam, .ref mis, .ref mip, .ref msd, .ref mrg, .int mmn, .ref mou])), (mtx, .inl (G.2 2, 120, .inl f)), (mdr, .inl (G.2 0, 400, .inl (upd fd (((6 * (nI fr)) + (0 : Int32)).toNatClampNeg) (3 : Int32))))] H locs := hW
        refine W.eq (g2 := F0 m 112 ls [.int ((mCmp f mkd b ee mam (upd fd (((6 * (nI fr)) + (0 : Int32)).toNatClampNeg) (3 : Int32)) fr mcm mop (0 : Int32) (5 : Int32)).1)]) rfl ?_
        exact Ct.iret hx hb hr hnl hW (by decide) (by decide) d_Mo_afterFirst_112 (by
      have e : mAF f mkd b ee mam fd fr mcm mop = ((mCmp f mkd b ee mam (upd fd (((6 * (nI fr)) + (0 : Int32)).toNatClampNeg) (3 : Int32)) fr mcm mop (0 : Int32) (5 : Int32)).1, (upd fd (((6 * (nI fr)) + (0 : Int32)).toNatClampNeg) (3 : Int32)), nI fr, (mCmp f mkd b ee mam (upd fd (((6 * (nI fr)) + (0 : Int32)).toNatClampNeg) (3 : Int32)) fr mcm mop (0 : Int32) (5 : Int32)).2) := by unfold mAF; rw [if_pos ht1, if_pos ht3, if_neg hf6]
      rw [e]
      exact ⟨rfl, rfl⟩)
    · refine lv_iconst (v := 2) hx hb d_Mo_afterFirst_22 (by decide) ?_
      refine lv_goto (tgt := 66) hx hb d_Mo_afterFirst_23 rfl ?_
      refine lv_istore_n (lv' := [(1, .int 2), (0, .ref h0)]) hx hb d_Mo_afterFirst_66 rfl hl (by decide) rfl (fun ls hl => ?_)
      refine lv_aload_n hx hb d_Mo_afterFirst_67 rfl (lv_at hl 1 rfl) ?_
      refine lv_iconst (v := 0) hx hb d_Mo_afterFirst_68 (by decide) ?_
      refine lv_iload_n hx hb d_Mo_afterFirst_69 rfl (lv_at hl 0 rfl) ?_
      refine Ct.callV (As := [.int 0, .int 2]) (rest := []) hx hb hml hown hts hK hA hl.1 hW (c_Mo_put2 l G h0 mcd mty mtx mpl mth mln msc (nI fr) mdr mcm mop mkd (nI b) (nI ee) mam mis mip msd mrg mmn mou fd (0 : Int32) (2 : Int32) (put_in (k := 0) hfr (by decide))) (cwV 2 hts (good_V w_ml_Mo_77 w_im_Mo_put w_se_Mo_put w_ini_Mo w_code_Mo_put) rfl rfl rfl yd_Mo_put ⟨by decide, by decide⟩) [0, 2] (by decide) rfl (ci := 1) (r := vr_Mo) rfl rfl rfl rfl rfl (Nat.le_of_ble_eq_true rfl) d_Mo_afterFirst_70 ⟨by decide, by decide⟩ (fun v w' hp => by obtain ⟨-, rfl⟩ := hp; exact Nat.le_of_ble_eq_true rfl) (fun v w' H locs hp hW => ?_)
      obtain ⟨rfl, rfl⟩ := hp
      have hW : Wd G A s.heap [(h0, .inr (1, [.int mcd, .int mty, .ref mtx, .int mpl, .int mth, .int mln, .ref msc, .int (nI fr), .ref mdr, .int mcm, .int mop, .int mkd, .int (nI b), .int (nI ee), .int mam, .ref mis, .ref mip, .ref msd, .ref mrg, .int mmn, .ref mou])), (mtx, .inl (G.2 2, 120, .inl f)), (mdr, .inl (G.2 0, 400, .inl (upd fd (((6 * (nI fr)) + (0 : Int32)).toNatClampNeg) (2 : Int32))))] H locs := hW
      refine W.eq (g2 := F0 m 73 ls []) rfl ?_
      refine lv_iload_n hx hb d_Mo_afterFirst_73 rfl (lv_at hl 0 rfl) ?_
      refine lv_if_ne (tgt := 82) hx hb d_Mo_afterFirst_74 rfl (fun _ => ?_) (fun hz => absurd hz (by decide))
      refine lv_iload_n hx hb d_Mo_afterFirst_82 rfl (lv_at hl 0 rfl) ?_
      refine lv_iconst (v := 5) hx hb d_Mo_afterFirst_83 (by decide) ?_
      refine lv_icmp_ne (tgt := 97) hx hb d_Mo_afterFirst_84 rfl (fun _ => ?_) (fun hz => absurd hz (by decide))
      refine lv_aload_n hx hb d_Mo_afterFirst_97 rfl (lv_at hl 1 rfl) ?_
      refine lv_iload_n hx hb d_Mo_afterFirst_98 rfl (lv_at hl 0 rfl) ?_
      refine lv_iconst (v := 4) hx hb d_Mo_afterFirst_99 (by decide) ?_
      refine lv_icmp_ne (tgt := 107) hx hb d_Mo_afterFirst_100 rfl (fun _ => ?_) (fun hz => absurd hz (by decide))
      refine lv_iconst (v := 0) hx hb d_Mo_afterFirst_107 (by decide) ?_
      refine lv_iconst (v := 5) hx hb d_Mo_afterFirst_108 (by decide) ?_
      refine Ct.callV (As := [.int 0, .int 5]) (rest := []) hx hb hml hown hts hK hA hl.1 hW (c_Mo_compared l G h0 mcd mty mtx mpl mth mln msc mdr mcm mop mkd mam mis mip msd mrg mmn mou b ee fr f (upd fd (((6 * (nI fr)) + (0 : Int32)).toNatClampNeg) (2 : Int32)) (0 : Int32) (5 : Int32) (by first | assumption | omega | decide) (by first | assumption | omega | decide) (by first | assumption | omega | decide) (by first | assumption | omega | decide)) (cwV 2 hts (good_V w_ml_Mo_102 w_im_Mo_compared w_se_Mo_compared w_ini_Mo w_code_Mo_compared) rfl rfl rfl yd_Mo_compared ⟨by decide, by decide⟩) [0, 1, 2] (by decide) rfl (ci := 1) (r := vr_Mo) rfl rfl rfl rfl rfl (Nat.le_of_ble_eq_true rfl) d_Mo_afterFirst_109 ⟨by decide, by decide⟩ (fun v w' hp => by obtain ⟨-, rfl⟩ := hp; exact Nat.le_of_ble_eq_true rfl) (fun v w' H locs hp hW => ?_)
      obtain ⟨rfl, rfl⟩ := hp
      have hW : Wd G A s.heap [(h0, .inr (1, [.int mcd, .int mty, .ref mtx, .int mpl, .int mth, .int mln, .ref msc, .int (nI fr), .ref mdr, .int ((mCmp f mkd b ee mam (upd fd (((6 * (nI fr)) + (0 : Int32)).toNatClampNeg) (2 : Int32)) fr mcm mop (0 : Int32) (5 : Int32)).2), .int mop, .int mkd, .int (nI b), .int (nI ee), .int mam, .ref mis, .ref mip, .ref msd, .ref mrg, .int mmn, .ref mou])), (mtx, .inl (G.2 2, 120, .inl f)), (mdr, .inl (G.2 0, 400, .inl (upd fd (((6 * (nI fr)) + (0 : Int32)).toNatClampNeg) (2 : Int32))))] H locs := hW
      refine W.eq (g2 := F0 m 112 ls [.int ((mCmp f mkd b ee mam (upd fd (((6 * (nI fr)) + (0 : Int32)).toNatClampNeg) (2 : Int32)) fr mcm mop (0 : Int32) (5 : Int32)).1)]) rfl ?_
      exact Ct.iret hx hb hr hnl hW (by decide) (by decide) d_Mo_afterFirst_112 (by
      have e : mAF f mkd b ee mam fd fr mcm mop = ((mCmp f mkd b ee mam (upd fd (((6 * (nI fr)) + (0 : Int32)).toNatClampNeg) (2 : Int32)) fr mcm mop (0 : Int32) (5 : Int32)).1, (upd fd (((6 * (nI fr)) + (0 : Int32)).toNatClampNeg) (2 : Int32)), nI fr, (mCmp f mkd b ee mam (upd fd (((6 * (nI fr)) + (0 : Int32)).toNatClampNeg) (2 : Int32)) fr mcm mop (0 : Int32) (5 : Int32)).2) := by unfold mAF; rw [if_pos ht1, if_neg hf4]
      rw [e]
      exact ⟨rfl, rfl⟩)
  · refine lv_iconst (v := 1) hx hb d_Mo_afterFirst_9 (by decide) ?_
    refine lv_goto (tgt := 66) hx hb d_Mo_afterFirst_10 rfl ?_
    refine lv_istore_n (lv' := [(1, .int 1), (0, .ref h0)]) hx hb d_Mo_afterFirst_66 rfl hl (by decide) rfl (fun ls hl => ?_)
    refine lv_aload_n hx hb d_Mo_afterFirst_67 rfl (lv_at hl 1 rfl) ?_
    refine lv_iconst (v := 0) hx hb d_Mo_afterFirst_68 (by decide) ?_
    refine lv_iload_n hx hb d_Mo_afterFirst_69 rfl (lv_at hl 0 rfl) ?_
    refine Ct.callV (As := [.int 0, .int 1]) (rest := []) hx hb hml hown hts hK hA hl.1 hW (c_Mo_put2 l G h0 mcd mty mtx mpl mth mln msc (nI fr) mdr mcm mop mkd (nI b) (nI ee) mam mis mip msd mrg mmn mou fd (0 : Int32) (1 : Int32) (put_in (k := 0) hfr (by decide))) (cwV 2 hts (good_V w_ml_Mo_77 w_im_Mo_put w_se_Mo_put w_ini_Mo w_code_Mo_put) rfl rfl rfl yd_Mo_put ⟨by decide, by decide⟩) [0, 2] (by decide) rfl (ci := 1) (r := vr_Mo) rfl rfl rfl rfl rfl (Nat.le_of_ble_eq_true rfl) d_Mo_afterFirst_70 ⟨by decide, by decide⟩ (fun v w' hp => by obtain ⟨-, rfl⟩ := hp; exact Nat.le_of_ble_eq_true rfl) (fun v w' H locs hp hW => ?_)
    obtain ⟨rfl, rfl⟩ := hp
    have hW : Wd G A s.heap [(h0, .inr (1, [.int mcd, .int mty, .ref mtx, .int mpl, .int mth, .int mln, .ref msc, .int (nI fr), .ref mdr, .int mcm, .int mop, .int mkd, .int (nI b), .int (nI ee), .int mam, .ref mis, .ref mip, .ref msd, .ref mrg, .int mmn, .ref mou])), (mtx, .inl (G.2 2, 120, .inl f)), (mdr, .inl (G.2 0, 400, .inl (upd fd (((6 * (nI fr)) + (0 : Int32)).toNatClampNeg) (1 : Int32))))] H locs := hW
    refine W.eq (g2 := F0 m 73 ls []) rfl ?_
    refine lv_iload_n hx hb d_Mo_afterFirst_73 rfl (lv_at hl 0 rfl) ?_
    refine lv_if_ne (tgt := 82) hx hb d_Mo_afterFirst_74 rfl (fun _ => ?_) (fun hz => absurd hz (by decide))
    refine lv_iload_n hx hb d_Mo_afterFirst_82 rfl (lv_at hl 0 rfl) ?_
    refine lv_iconst (v := 5) hx hb d_Mo_afterFirst_83 (by decide) ?_
    refine lv_icmp_ne (tgt := 97) hx hb d_Mo_afterFirst_84 rfl (fun _ => ?_) (fun hz => absurd hz (by decide))
    refine lv_aload_n hx hb d_Mo_afterFirst_97 rfl (lv_at hl 1 rfl) ?_
    refine lv_iload_n hx hb d_Mo_afterFirst_98 rfl (lv_at hl 0 rfl) ?_
    refine lv_iconst (v := 4) hx hb d_Mo_afterFirst_99 (by decide) ?_
    refine lv_icmp_ne (tgt := 107) hx hb d_Mo_afterFirst_100 rfl (fun _ => ?_) (fun hz => absurd hz (by decide))
    refine lv_iconst (v := 0) hx hb d_Mo_afterFirst_107 (by decide) ?_
    refine lv_iconst (v := 5) hx hb d_Mo_afterFirst_108 (by decide) ?_
    refine Ct.callV (As := [.int 0, .int 5]) (rest := []) hx hb hml hown hts hK hA hl.1 hW (c_Mo_compared l G h0 mcd mty mtx mpl mth mln msc mdr mcm mop mkd mam mis mip msd mrg mmn mou b ee fr f (upd fd (((6 * (nI fr)) + (0 : Int32)).toNatClampNeg) (1 : Int32)) (0 : Int32) (5 : Int32) (by first | assumption | omega | decide) (by first | assumption | omega | decide) (by first | assumption | omega | decide) (by first | assumption | omega | decide)) (cwV 2 hts (good_V w_ml_Mo_102 w_im_Mo_compared w_se_Mo_compared w_ini_Mo w_code_Mo_compared) rfl rfl rfl yd_Mo_compared ⟨by decide, by decide⟩) [0, 1, 2] (by decide) rfl (ci := 1) (r := vr_Mo) rfl rfl rfl rfl rfl (Nat.le_of_ble_eq_true rfl) d_Mo_afterFirst_109 ⟨by decide, by decide⟩ (fun v w' hp => by obtain ⟨-, rfl⟩ := hp; exact Nat.le_of_ble_eq_true rfl) (fun v w' H locs hp hW => ?_)
    obtain ⟨rfl, rfl⟩ := hp
    have hW : Wd G A s.heap [(h0, .inr (1, [.int mcd, .int mty, .ref mtx, .int mpl, .int mth, .int mln, .ref msc, .int (nI fr), .ref mdr, .int ((mCmp f mkd b ee mam (upd fd (((6 * (nI fr)) + (0 : Int32)).toNatClampNeg) (1 : Int32)) fr mcm mop (0 : Int32) (5 : Int32)).2), .int mop, .int mkd, .int (nI b), .int (nI ee), .int mam, .ref mis, .ref mip, .ref msd, .ref mrg, .int mmn, .ref mou])), (mtx, .inl (G.2 2, 120, .inl f)), (mdr, .inl (G.2 0, 400, .inl (upd fd (((6 * (nI fr)) + (0 : Int32)).toNatClampNeg) (1 : Int32))))] H locs := hW
    refine W.eq (g2 := F0 m 112 ls [.int ((mCmp f mkd b ee mam (upd fd (((6 * (nI fr)) + (0 : Int32)).toNatClampNeg) (1 : Int32)) fr mcm mop (0 : Int32) (5 : Int32)).1)]) rfl ?_
    exact Ct.iret hx hb hr hnl hW (by decide) (by decide) d_Mo_afterFirst_112 (by
      have e : mAF f mkd b ee mam fd fr mcm mop = ((mCmp f mkd b ee mam (upd fd (((6 * (nI fr)) + (0 : Int32)).toNatClampNeg) (1 : Int32)) fr mcm mop (0 : Int32) (5 : Int32)).1, (upd fd (((6 * (nI fr)) + (0 : Int32)).toNatClampNeg) (1 : Int32)), nI fr, (mCmp f mkd b ee mam (upd fd (((6 * (nI fr)) + (0 : Int32)).toNatClampNeg) (1 : Int32)) fr mcm mop (0 : Int32) (5 : Int32)).2) := by unfold mAF; rw [if_neg hf2]
      rw [e]
      exact ⟨rfl, rfl⟩)

def mNxt (f : Nat → Int32) (mkd : Int32) (b : Nat) (ee : Nat) (mam : Int32) (fd : Nat → Int32) (fr : Nat) (mcm : Int32) (mop : Int32) (y1 : Int32) : Int32 × (Nat → Int32) × Int32 × Int32 × Int32 := if y1 = 0 then ((mSta f mkd b ee mam fd fr mcm mop).1, (mSta f mkd b ee mam fd fr mcm mop).2.1, nI fr, mcm, (mSta f mkd b ee mam fd fr mcm mop).2.2) else if y1 = 1 then if (o_Mo_isIt_r mkd b f (61 : Int32)) = 0 then (16, fd, (nI fr), mcm, mop) else (2, fd, (nI fr), mcm, mop) else if y1 = 2 then ((mVal f mkd b ee mam fd fr mcm mop 2 (3 : Int32) (4 : Int32)).1, (mVal f mkd b ee mam fd fr mcm mop 2 (3 : Int32) (4 : Int32)).2, nI fr, mcm, mop) else if y1 = 3 then ((mInp f mkd b ee mam fd fr mcm mop 2 (4 : Int32)).1, (mInp f mkd b ee mam fd fr mcm mop 2 (4 : Int32)).2, nI fr, mcm, mop) else if y1 = 4 then ((mAF f mkd b ee mam fd fr mcm mop).1, (mAF f mkd b ee mam fd fr mcm mop).2.1, (mAF f mkd b ee mam fd fr mcm mop).2.2.1, (mAF f mkd b ee mam fd fr mcm mop).2.2.2, mop) else if y1 = 5 then ((mVal f mkd b ee mam fd fr mcm mop 3 (6 : Int32) (15 : Int32)).1, (mVal f mkd b ee mam fd fr mcm mop 3 (6 : Int32) (15 : Int32)).2, nI fr, mcm, mop) else if y1 = 6 then ((mInp f mkd b ee mam fd fr mcm mop 3 (15 : Int32)).1, (mInp f mkd b ee mam fd fr mcm mop 3 (15 : Int32)).2, nI fr, mcm, mop) else if y1 = 7 then ((mVal f mkd b ee mam fd fr mcm mop 3 (8 : Int32) (9 : Int32)).1, (mVal f mkd b ee mam fd fr mcm mop 3 (8 : Int32) (9 : Int32)).2, nI fr, mcm, mop) else if y1 = 8 then ((mInp f mkd b ee mam fd fr mcm mop 3 (9 : Int32)).1, (mInp f mkd b ee mam fd fr mcm mop 3 (9 : Int32)).2, nI fr, mcm, mop) else if y1 = 9 then if (o_Mo_isIt_r mkd b f (58 : Int32)) = 0 then (16, fd, (nI fr), mcm, mop) else (10, fd, (nI fr), mcm, mop) else if y1 = 10 then ((mVal f mkd b ee mam fd fr mcm mop 4 (11 : Int32) (15 : Int32)).1, (mVal f mkd b ee mam fd fr mcm mop 4 (11 : Int32) (15 : Int32)).2, nI fr, mcm, mop) else if y1 = 11 then ((mInp f mkd b ee mam fd fr mcm mop 4 (15 : Int32)).1, (mInp f mkd b ee mam fd fr mcm mop 4 (15 : Int32)).2, nI fr, mcm, mop) else if y1 = 12 then ((mNam f mkd b ee mam fd fr mcm mop (13 : Int32)).1, (mNam f mkd b ee mam fd fr mcm mop (13 : Int32)).2, nI fr, mcm, mop) else if y1 = 13 then if mkd = 1 then ((mTo f mkd b ee mam fd fr mcm mop).1, (mTo f mkd b ee mam fd fr mcm mop).2.1, nI fr, (mTo f mkd b ee mam fd fr mcm mop).2.2, mop) else (16, fd, nI fr, mcm, mop) else if y1 = 14 then ((mNam f mkd b ee mam fd fr mcm mop (15 : Int32)).1, (mNam f mkd b ee mam fd fr mcm mop (15 : Int32)).2, nI fr, mcm, mop) else ((mAft f mkd b ee mam fd fr mcm mop).1, fd, (mAft f mkd b ee mam fd fr mcm mop).2, mcm, mop)
abbrev rm_Mo_next : Room := { frames := 3, cells := 0, slots := 0, locals := 62 }
set_option maxHeartbeats 4000000 in
set_option maxRecDepth 100000 in
theorem c_Mo_next (l : Launch) (G : Gt) (h0 : Nat) (mcd : Int32) (mty : Int32) (mtx : Nat) (mpl : Int32) (mth : Int32) (mln : Int32) (msc : Nat) (mdr : Nat) (mcm : Int32) (mop : Int32) (mkd : Int32) (mam : Int32) (mis : Nat) (mip : Nat) (msd : Nat) (mrg : Nat) (mmn : Int32) (mou : Nat) (b : Nat) (ee : Nat) (fr : Nat) (f : Nat → Int32) (fd : Nat → Int32) (y1 : Int32) (hbe : b ≤ ee) (hee : ee ≤ 120) (hb0 : ¬ mkd = 0 → b < 120) (hfr : fr ≤ 60) : Ct l G y_Mo_next b_Mo_next 2 (some .int) rm_Mo_next [.ref h0, .int y1] [(h0, .inr (1, [.int mcd, .int mty, .ref mtx, .int mpl, .int mth, .int mln, .ref msc, .int (nI fr), .ref mdr, .int mcm, .int mop, .int mkd, .int (nI b), .int (nI ee), .int mam, .ref mis, .ref mip, .ref msd, .ref mrg, .int mmn, .ref mou])), (mtx, .inl (G.2 2, 120, .inl f)), (mdr, .inl (G.2 0, 400, .inl fd))] 0 0 (fun v w' => v = some (.int ((mNxt f mkd b ee mam fd fr mcm mop y1).1)) ∧ w' = [(h0, .inr (1, [.int mcd, .int mty, .ref mtx, .int mpl, .int mth, .int mln, .ref msc, .int ((mNxt f mkd b ee mam fd fr mcm mop y1).2.2.1), .ref mdr, .int ((mNxt f mkd b ee mam fd fr mcm mop y1).2.2.2.1), .int ((mNxt f mkd b ee mam fd fr mcm mop y1).2.2.2.2), .int mkd, .int (nI b), .int (nI ee), .int mam, .ref mis, .ref mip, .ref msd, .ref mrg, .int mmn, .ref mou])), (mtx, .inl (G.2 2, 120, .inl f)), (mdr, .inl (G.2 0, 400, .inl ((mNxt f mkd b ee mam fd fr mcm mop y1).2.1)))]) := by
  refine Ct.of (by decide) (Nat.le_of_ble_eq_true rfl) (fun p e s m args below meth c A ls H locs hx hb hml hr hnl hown hts hnm hK hA hl hW => ?_)
  have hl : lv_has ls 2 [(0, .ref h0), (1, .int y1)] := hl
  refine lv_iload_n hx hb d_Mo_next_0 rfl (lv_at hl 1 rfl) ?_
  by_cases ht1 : y1 = 0
  · refine lv_tableIn (tgt := 76) hx hb d_Mo_next_1 (by rw [ht1]; decide) (by rw [ht1]; decide) (by rw [ht1]; rfl) rfl ?_
    refine lv_aload_n hx hb d_Mo_next_76 rfl (lv_at hl 0 rfl) ?_
    refine Ct.callV (As := []) (rest := []) hx hb hml hown hts hK hA hl.1 hW (c_Mo_start l G h0 mcd mty mtx mpl mth mln msc mdr mcm mop mkd mam mis mip msd mrg mmn mou b ee fr f fd (by first | assumption | omega | decide) (by first | assumption | omega | decide) (by first | assumption | omega | decide) (by first | assumption | omega | decide)) (cwV 0 hts (good_V w_ml_Mo_106 w_im_Mo_start w_se_Mo_start w_ini_Mo w_code_Mo_start) rfl rfl rfl yd_Mo_start ⟨by decide, by decide⟩) [0, 1, 2] (by decide) rfl (ci := 1) (r := vr_Mo) rfl rfl rfl rfl rfl (Nat.le_of_ble_eq_true rfl) d_Mo_next_77 ⟨by decide, by decide⟩ (fun v w' hp => by obtain ⟨-, rfl⟩ := hp; exact Nat.le_of_ble_eq_true rfl) (fun v w' H locs hp hW => ?_)
    obtain ⟨rfl, rfl⟩ := hp
    have hW : Wd G A s.heap [(h0, .inr (1, [.int mcd, .int mty, .ref mtx, .int mpl, .int mth, .int mln, .ref msc, .int (nI fr), .ref mdr, .int mcm, .int ((mSta f mkd b ee mam fd fr mcm mop).2.2), .int mkd, .int (nI b), .int (nI ee), .int mam, .ref mis, .ref mip, .ref msd, .ref mrg, .int mmn, .ref mou])), (mtx, .inl (G.2 2, 120, .inl f)), (mdr, .inl (G.2 0, 400, .inl ((mSta f mkd b ee mam fd fr mcm mop).2.1)))] H locs := hW
    refine W.eq (g2 := F0 m 80 ls [.int ((mSta f mkd b ee mam fd fr mcm mop).1)]) rfl ?_
    exact Ct.iret hx hb hr hnl hW (by decide) (by decide) d_Mo_next_80 (by
      have e : mNxt f mkd b ee mam fd fr mcm mop y1 = ((mSta f mkd b ee mam fd fr mcm mop).1, (mSta f mkd b ee mam fd fr mcm mop).2.1, nI fr, mcm, (mSta f mkd b ee mam fd fr mcm mop).2.2) := by unfold mNxt; rw [if_pos ht1]
      rw [e]
      exact ⟨rfl, rfl⟩)
  have hf2 := ht1
  by_cases ht3 : y1 = 1
  · refine lv_tableIn (tgt := 81) hx hb d_Mo_next_1 (by rw [ht3]; decide) (by rw [ht3]; decide) (by rw [ht3]; rfl) rfl ?_
    refine lv_aload_n hx hb d_Mo_next_81 rfl (lv_at hl 0 rfl) ?_
    refine lv_bipush (v := 61) hx hb d_Mo_next_82 (by decide) ?_
    refine Ct.callV (As := [.int 61]) (rest := []) hx hb hml hown hts hK hA hl.1 hW (c_Mo_isItR l G h0 mcd mty mtx mpl mth mln msc (nI fr) mdr mcm mop mkd mam mis mip msd mrg mmn mou b ee f (61 : Int32) (by first | assumption | omega | decide)) (cwV 1 hts (good_V w_ml_Mo_92 w_im_Mo_isIt w_se_Mo_isIt w_ini_Mo w_code_Mo_isIt) rfl rfl rfl yd_Mo_isIt ⟨by decide, by decide⟩) [0, 1] (by decide) rfl (ci := 1) (r := vr_Mo) rfl rfl rfl rfl rfl (Nat.le_of_ble_eq_true rfl) d_Mo_next_84 ⟨by decide, by decide⟩ (fun v w' hp => by obtain ⟨-, rfl⟩ := hp; exact Nat.le_of_ble_eq_true rfl) (fun v w' H locs hp hW => ?_)
    obtain ⟨rfl, rfl⟩ := hp
    have hW : Wd G A s.heap [(h0, .inr (1, [.int mcd, .int mty, .ref mtx, .int mpl, .int mth, .int mln, .ref msc, .int (nI fr), .ref mdr, .int mcm, .int mop, .int mkd, .int (nI b), .int (nI ee), .int mam, .ref mis, .ref mip, .ref msd, .ref mrg, .int mmn, .ref mou])), (mtx, .inl (G.2 2, 120, .inl f)), (mdr, .inl (G.2 0, 400, .inl fd))] H locs := hW
    refine W.eq (g2 := F0 m 87 ls [.int (o_Mo_isIt_r mkd b f (61 : Int32))]) rfl ?_
    refine lv_if_eq (tgt := 94) hx hb d_Mo_next_87 rfl (fun ht5 => ?_) (fun hf6 => ?_)
    · refine lv_bipush (v := 16) hx hb d_Mo_next_94 (by decide) ?_
      exact Ct.iret hx hb hr hnl hW (by decide) (by decide) d_Mo_next_96 (by
      have e : mNxt f mkd b ee mam fd fr mcm mop y1 = (16, fd, (nI fr), mcm, mop) := by unfold mNxt; rw [if_neg hf2, if_pos ht3, if_pos ht5]
      rw [e]
      exact ⟨rfl, rfl⟩)
    · refine lv_iconst (v := 2) hx hb d_Mo_next_90 (by decide) ?_
      refine lv_goto (tgt := 96) hx hb d_Mo_next_91 rfl ?_
      exact Ct.iret hx hb hr hnl hW (by decide) (by decide) d_Mo_next_96 (by
      have e : mNxt f mkd b ee mam fd fr mcm mop y1 = (2, fd, (nI fr), mcm, mop) := by unfold mNxt; rw [if_neg hf2, if_pos ht3, if_neg hf6]
      rw [e]
      exact ⟨rfl, rfl⟩)
  have hf4 := ht3
  by_cases ht7 : y1 = 2
  · refine lv_tableIn (tgt := 97) hx hb d_Mo_next_1 (by rw [ht7]; decide) (by rw [ht7]; decide) (by rw [ht7]; rfl) rfl ?_
    refine lv_aload_n hx hb d_Mo_next_97 rfl (lv_at hl 0 rfl) ?_
    refine lv_iconst (v := 2) hx hb d_Mo_next_98 (by decide) ?_
    refine lv_iconst (v := 3) hx hb d_Mo_next_99 (by decide) ?_
    refine lv_iconst (v := 4) hx hb d_Mo_next_100 (by decide) ?_
    refine Ct.callV (As := [.int 2, .int 3, .int 4]) (rest := []) hx hb hml hown hts hK hA hl.1 hW (c_Mo_value l G h0 mcd mty mtx mpl mth mln msc mdr mcm mop mkd mam mis mip msd mrg mmn mou b ee fr f fd 2 (3 : Int32) (4 : Int32) (by first | assumption | omega | decide) (by first | assumption | omega | decide) (by first | assumption | omega | decide) (by first | assumption | omega | decide) (by first | assumption | omega | decide)) (cwV 3 hts (good_V w_ml_Mo_109 w_im_Mo_value w_se_Mo_value w_ini_Mo w_code_Mo_value) rfl rfl rfl yd_Mo_value ⟨by decide, by decide⟩) [0, 1, 2] (by decide) rfl (ci := 1) (r := vr_Mo) rfl rfl rfl rfl rfl (Nat.le_of_ble_eq_true rfl) d_Mo_next_101 ⟨by decide, by decide⟩ (fun v w' hp => by obtain ⟨-, rfl⟩ := hp; exact Nat.le_of_ble_eq_true rfl) (fun v w' H locs hp hW => ?_)
    obtain ⟨rfl, rfl⟩ := hp
    have hW : Wd G A s.heap [(h0, .inr (1, [.int mcd, .int mty, .ref mtx, .int mpl, .int mth, .int mln, .ref msc, .int (nI fr), .ref mdr, .int mcm, .int mop, .int mkd, .int (nI b), .int (nI ee), .int mam, .ref mis, .ref mip, .ref msd, .ref mrg, .int mmn, .ref mou])), (mtx, .inl (G.2 2, 120, .inl f)), (mdr, .inl (G.2 0, 400, .inl ((mVal f mkd b ee mam fd fr mcm mop 2 (3 : Int32) (4 : Int32)).2)))] H locs := hW
    refine W.eq (g2 := F0 m 104 ls [.int ((mVal f mkd b ee mam fd fr mcm mop 2 (3 : Int32) (4 : Int32)).1)]) rfl ?_
    exact Ct.iret hx hb hr hnl hW (by decide) (by decide) d_Mo_next_104 (by
      have e : mNxt f mkd b ee mam fd fr mcm mop y1 = ((mVal f mkd b ee mam fd fr mcm mop 2 (3 : Int32) (4 : Int32)).1, (mVal f mkd b ee mam fd fr mcm mop 2 (3 : Int32) (4 : Int32)).2, nI fr, mcm, mop) := by unfold mNxt; rw [if_neg hf2, if_neg hf4, if_pos ht7]
      rw [e]
      exact ⟨rfl, rfl⟩)
  have hf8 := ht7
  by_cases ht9 : y1 = 3
  · refine lv_tableIn (tgt := 105) hx hb d_Mo_next_1 (by rw [ht9]; decide) (by rw [ht9]; decide) (by rw [ht9]; rfl) rfl ?_
    refine lv_aload_n hx hb d_Mo_next_105 rfl (lv_at hl 0 rfl) ?_
    refine lv_iconst (v := 2) hx hb d_Mo_next_106 (by decide) ?_
    refine lv_iconst (v := 4) hx hb d_Mo_next_107 (by decide) ?_
    refine Ct.callV (As := [.int 2, .int 4]) (rest := []) hx hb hml hown hts hK hA hl.1 hW (c_Mo_inputOf l G h0 mcd mty mtx mpl mth mln msc mdr mcm mop mkd mam mis mip msd mrg mmn mou b ee fr f fd 2 (4 : Int32) (by first | assumption | omega | decide) (by first | assumption | omega | decide) (by first | assumption | omega | decide) (by first | assumption | omega | decide) (by first | assumption | omega | decide)) (cwV 2 hts (good_V w_ml_Mo_113 w_im_Mo_inputOf w_se_Mo_inputOf w_ini_Mo w_code_Mo_inputOf) rfl rfl rfl yd_Mo_inputOf ⟨by decide, by decide⟩) [0, 1, 2] (by decide) rfl (ci := 1) (r := vr_Mo) rfl rfl rfl rfl rfl (Nat.le_of_ble_eq_true rfl) d_Mo_next_108 ⟨by decide, by decide⟩ (fun v w' hp => by obtain ⟨-, rfl⟩ := hp; exact Nat.le_of_ble_eq_true rfl) (fun v w' H locs hp hW => ?_)
    obtain ⟨rfl, rfl⟩ := hp
    have hW : Wd G A s.heap [(h0, .inr (1, [.int mcd, .int mty, .ref mtx, .int mpl, .int mth, .int mln, .ref msc, .int (nI fr), .ref mdr, .int mcm, .int mop, .int mkd, .int (nI b), .int (nI ee), .int mam, .ref mis, .ref mip, .ref msd, .ref mrg, .int mmn, .ref mou])), (mtx, .inl (G.2 2, 120, .inl f)), (mdr, .inl (G.2 0, 400, .inl ((mInp f mkd b ee mam fd fr mcm mop 2 (4 : Int32)).2)))] H locs := hW
    refine W.eq (g2 := F0 m 111 ls [.int ((mInp f mkd b ee mam fd fr mcm mop 2 (4 : Int32)).1)]) rfl ?_
    exact Ct.iret hx hb hr hnl hW (by decide) (by decide) d_Mo_next_111 (by
      have e : mNxt f mkd b ee mam fd fr mcm mop y1 = ((mInp f mkd b ee mam fd fr mcm mop 2 (4 : Int32)).1, (mInp f mkd b ee mam fd fr mcm mop 2 (4 : Int32)).2, nI fr, mcm, mop) := by unfold mNxt; rw [if_neg hf2, if_neg hf4, if_neg hf8, if_pos ht9]
      rw [e]
      exact ⟨rfl, rfl⟩)
  have hf10 := ht9
  by_cases ht11 : y1 = 4
  · refine lv_tableIn (tgt := 112) hx hb d_Mo_next_1 (by rw [ht11]; decide) (by rw [ht11]; decide) (by rw [ht11]; rfl) rfl ?_
    refine lv_aload_n hx hb d_Mo_next_112 rfl (lv_at hl 0 rfl) ?_
    refine Ct.callV (As := []) (rest := []) hx hb hml hown hts hK hA hl.1 hW (c_Mo_afterFirst l G h0 mcd mty mtx mpl mth mln msc mdr mcm mop mkd mam mis mip msd mrg mmn mou b ee fr f fd (by first | assumption | omega | decide) (by first | assumption | omega | decide) (by first | assumption | omega | decide) (by first | assumption | omega | decide)) (cwV 0 hts (good_V w_ml_Mo_116 w_im_Mo_afterFirst w_se_Mo_afterFirst w_ini_Mo w_code_Mo_afterFirst) rfl rfl rfl yd_Mo_afterFirst ⟨by decide, by decide⟩) [0, 1, 2] (by decide) rfl (ci := 1) (r := vr_Mo) rfl rfl rfl rfl rfl (Nat.le_of_ble_eq_true rfl) d_Mo_next_113 ⟨by decide, by decide⟩ (fun v w' hp => by obtain ⟨-, rfl⟩ := hp; exact Nat.le_of_ble_eq_true rfl) (fun v w' H locs hp hW => ?_)
    obtain ⟨rfl, rfl⟩ := hp
    have hW : Wd G A s.heap [(h0, .inr (1, [.int mcd, .int mty, .ref mtx, .int mpl, .int mth, .int mln, .ref msc, .int ((mAF f mkd b ee mam fd fr mcm mop).2.2.1), .ref mdr, .int ((mAF f mkd b ee mam fd fr mcm mop).2.2.2), .int mop, .int mkd, .int (nI b), .int (nI ee), .int mam, .ref mis, .ref mip, .ref msd, .ref mrg, .int mmn, .ref mou])), (mtx, .inl (G.2 2, 120, .inl f)), (mdr, .inl (G.2 0, 400, .inl ((mAF f mkd b ee mam fd fr mcm mop).2.1)))] H locs := hW
    refine W.eq (g2 := F0 m 116 ls [.int ((mAF f mkd b ee mam fd fr mcm mop).1)]) rfl ?_
    exact Ct.iret hx hb hr hnl hW (by decide) (by decide) d_Mo_next_116 (by
      have e : mNxt f mkd b ee mam fd fr mcm mop y1 = ((mAF f mkd b ee mam fd fr mcm mop).1, (mAF f mkd b ee mam fd fr mcm mop).2.1, (mAF f mkd b ee mam fd fr mcm mop).2.2.1, (mAF f mkd b ee mam fd fr mcm mop).2.2.2, mop) := by unfold mNxt; rw [if_neg hf2, if_neg hf4, if_neg hf8, if_neg hf10, if_pos ht11]
      rw [e]
      exact ⟨rfl, rfl⟩)
  have hf12 := ht11
  by_cases ht13 : y1 = 5
  · refine lv_tableIn (tgt := 117) hx hb d_Mo_next_1 (by rw [ht13]; decide) (by rw [ht13]; decide) (by rw [ht13]; rfl) rfl ?_
    refine lv_aload_n hx hb d_Mo_next_117 rfl (lv_at hl 0 rfl) ?_
    refine lv_iconst (v := 3) hx hb d_Mo_next_118 (by decide) ?_
    refine lv_bipush (v := 6) hx hb d_Mo_next_119 (by decide) ?_
    refine lv_bipush (v := 15) hx hb d_Mo_next_121 (by decide) ?_
    refine Ct.callV (As := [.int 3, .int 6, .int 15]) (rest := []) hx hb hml hown hts hK hA hl.1 hW (c_Mo_value l G h0 mcd mty mtx mpl mth mln msc mdr mcm mop mkd mam mis mip msd mrg mmn mou b ee fr f fd 3 (6 : Int32) (15 : Int32) (by first | assumption | omega | decide) (by first | assumption | omega | decide) (by first | assumption | omega | decide) (by first | assumption | omega | decide) (by first | assumption | omega | decide)) (cwV 3 hts (good_V w_ml_Mo_109 w_im_Mo_value w_se_Mo_value w_ini_Mo w_code_Mo_value) rfl rfl rfl yd_Mo_value ⟨by decide, by decide⟩) [0, 1, 2] (by decide) rfl (ci := 1) (r := vr_Mo) rfl rfl rfl rfl rfl (Nat.le_of_ble_eq_true rfl) d_Mo_next_123 ⟨by decide, by decide⟩ (fun v w' hp => by obtain ⟨-, rfl⟩ := hp; exact Nat.le_of_ble_eq_true rfl) (fun v w' H locs hp hW => ?_)
    obtain ⟨rfl, rfl⟩ := hp
    have hW : Wd G A s.heap [(h0, .inr (1, [.int mcd, .int mty, .ref mtx, .int mpl, .int mth, .int mln, .ref msc, .int (nI fr), .ref mdr, .int mcm, .int mop, .int mkd, .int (nI b), .int (nI ee), .int mam, .ref mis, .ref mip, .ref msd, .ref mrg, .int mmn, .ref mou])), (mtx, .inl (G.2 2, 120, .inl f)), (mdr, .inl (G.2 0, 400, .inl ((mVal f mkd b ee mam fd fr mcm mop 3 (6 : Int32) (15 : Int32)).2)))] H locs := hW
    refine W.eq (g2 := F0 m 126 ls [.int ((mVal f mkd b ee mam fd fr mcm mop 3 (6 : Int32) (15 : Int32)).1)]) rfl ?_
    exact Ct.iret hx hb hr hnl hW (by decide) (by decide) d_Mo_next_126 (by
      have e : mNxt f mkd b ee mam fd fr mcm mop y1 = ((mVal f mkd b ee mam fd fr mcm mop 3 (6 : Int32) (15 : Int32)).1, (mVal f mkd b ee mam fd fr mcm mop 3 (6 : Int32) (15 : Int32)).2, nI fr, mcm, mop) := by unfold mNxt; rw [if_neg hf2, if_neg hf4, if_neg hf8, if_neg hf10, if_neg hf12, if_pos ht13]
      rw [e]
      exact ⟨rfl, rfl⟩)
  have hf14 := ht13
  by_cases ht15 : y1 = 6
  · refine lv_tableIn (tgt := 127) hx hb d_Mo_next_1 (by rw [ht15]; decide) (by rw [ht15]; decide) (by rw [ht15]; rfl) rfl ?_
    refine lv_aload_n hx hb d_Mo_next_127 rfl (lv_at hl 0 rfl) ?_
    refine lv_iconst (v := 3) hx hb d_Mo_next_128 (by decide) ?_
    refine lv_bipush (v := 15) hx hb d_Mo_next_129 (by decide) ?_
    refine Ct.callV (As := [.int 3, .int 15]) (rest := []) hx hb hml hown hts hK hA hl.1 hW (c_Mo_inputOf l G h0 mcd mty mtx mpl mth mln msc mdr mcm mop mkd mam mis mip msd mrg mmn mou b ee fr f fd 3 (15 : Int32) (by first | assumption | omega | decide) (by first | assumption | omega | decide) (by first | assumption | omega | decide) (by first | assumption | omega | decide) (by first | assumption | omega | decide)) (cwV 2 hts (good_V w_ml_Mo_113 w_im_Mo_inputOf w_se_Mo_inputOf w_ini_Mo w_code_Mo_inputOf) rfl rfl rfl yd_Mo_inputOf ⟨by decide, by decide⟩) [0, 1, 2] (by decide) rfl (ci := 1) (r := vr_Mo) rfl rfl rfl rfl rfl (Nat.le_of_ble_eq_true rfl) d_Mo_next_131 ⟨by decide, by decide⟩ (fun v w' hp => by obtain ⟨-, rfl⟩ := hp; exact Nat.le_of_ble_eq_true rfl) (fun v w' H locs hp hW => ?_)
    obtain ⟨rfl, rfl⟩ := hp
    have hW : Wd G A s.heap [(h0, .inr (1, [.int mcd, .int mty, .ref mtx, .int mpl, .int mth, .int mln, .ref msc, .int (nI fr), .ref mdr, .int mcm, .int mop, .int mkd, .int (nI b), .int (nI ee), .int mam, .ref mis, .ref mip, .ref msd, .ref mrg, .int mmn, .ref mou])), (mtx, .inl (G.2 2, 120, .inl f)), (mdr, .inl (G.2 0, 400, .inl ((mInp f mkd b ee mam fd fr mcm mop 3 (15 : Int32)).2)))] H locs := hW
    refine W.eq (g2 := F0 m 134 ls [.int ((mInp f mkd b ee mam fd fr mcm mop 3 (15 : Int32)).1)]) rfl ?_
    exact Ct.iret hx hb hr hnl hW (by decide) (by decide) d_Mo_next_134 (by
      have e : mNxt f mkd b ee mam fd fr mcm mop y1 = ((mInp f mkd b ee mam fd fr mcm mop 3 (15 : Int32)).1, (mInp f mkd b ee mam fd fr mcm mop 3 (15 : Int32)).2, nI fr, mcm, mop) := by unfold mNxt; rw [if_neg hf2, if_neg hf4, if_neg hf8, if_neg hf10, if_neg hf12, if_neg hf14, if_pos ht15]
      rw [e]
      exact ⟨rfl, rfl⟩)
  have hf16 := ht15
  by_cases ht17 : y1 = 7
  · refine lv_tableIn (tgt := 135) hx hb d_Mo_next_1 (by rw [ht17]; decide) (by rw [ht17]; decide) (by rw [ht17]; rfl) rfl ?_
    refine lv_aload_n hx hb d_Mo_next_135 rfl (lv_at hl 0 rfl) ?_
    refine lv_iconst (v := 3) hx hb d_Mo_next_136 (by decide) ?_
    refine lv_bipush (v := 8) hx hb d_Mo_next_137 (by decide) ?_
    refine lv_bipush (v := 9) hx hb d_Mo_next_139 (by decide) ?_
    refine Ct.callV (As := [.int 3, .int 8, .int 9]) (rest := []) hx hb hml hown hts hK hA hl.1 hW (c_Mo_value l G h0 mcd mty mtx mpl mth mln msc mdr mcm mop mkd mam mis mip msd mrg mmn mou b ee fr f fd 3 (8 : Int32) (9 : Int32) (by first | assumption | omega | decide) (by first | assumption | omega | decide) (by first | assumption | omega | decide) (by first | assumption | omega | decide) (by first | assumption | omega | decide)) (cwV 3 hts (good_V w_ml_Mo_109 w_im_Mo_value w_se_Mo_value w_ini_Mo w_code_Mo_value) rfl rfl rfl yd_Mo_value ⟨by decide, by decide⟩) [0, 1, 2] (by decide) rfl (ci := 1) (r := vr_Mo) rfl rfl rfl rfl rfl (Nat.le_of_ble_eq_true rfl) d_Mo_next_141 ⟨by decide, by decide⟩ (fun v w' hp => by obtain ⟨-, rfl⟩ := hp; exact Nat.le_of_ble_eq_true rfl) (fun v w' H locs hp hW => ?_)
    obtain ⟨rfl, rfl⟩ := hp
    have hW : Wd G A s.heap [(h0, .inr (1, [.int mcd, .int mty, .ref mtx, .int mpl, .int mth, .int mln, .ref msc, .int (nI fr), .ref mdr, .int mcm, .int mop, .int mkd, .int (nI b), .int (nI ee), .int mam, .ref mis, .ref mip, .ref msd, .ref mrg, .int mmn, .ref mou])), (mtx, .inl (G.2 2, 120, .inl f)), (mdr, .inl (G.2 0, 400, .inl ((mVal f mkd b ee mam fd fr mcm mop 3 (8 : Int32) (9 : Int32)).2)))] H locs := hW
    refine W.eq (g2 := F0 m 144 ls [.int ((mVal f mkd b ee mam fd fr mcm mop 3 (8 : Int32) (9 : Int32)).1)]) rfl ?_
    exact Ct.iret hx hb hr hnl hW (by decide) (by decide) d_Mo_next_144 (by
      have e : mNxt f mkd b ee mam fd fr mcm mop y1 = ((mVal f mkd b ee mam fd fr mcm mop 3 (8 : Int32) (9 : Int32)).1, (mVal f mkd b ee mam fd fr mcm mop 3 (8 : Int32) (9 : Int32)).2, nI fr, mcm, mop) := by unfold mNxt; rw [if_neg hf2, if_neg hf4, if_neg hf8, if_neg hf10, if_neg hf12, if_neg hf14, if_neg hf16, if_pos ht17]
      rw [e]
      exact ⟨rfl, rfl⟩)
  have hf18 := ht17
  by_cases ht19 : y1 = 8
  · refine lv_tableIn (tgt := 145) hx hb d_Mo_next_1 (by rw [ht19]; decide) (by rw [ht19]; decide) (by rw [ht19]; rfl) rfl ?_
    refine lv_aload_n hx hb d_Mo_next_145 rfl (lv_at hl 0 rfl) ?_
    refine lv_iconst (v := 3) hx hb d_Mo_next_146 (by decide) ?_
    refine lv_bipush (v := 9) hx hb d_Mo_next_147 (by decide) ?_
    refine Ct.callV (As := [.int 3, .int 9]) (rest := []) hx hb hml hown hts hK hA hl.1 hW (c_Mo_inputOf l G h0 mcd mty mtx mpl mth mln msc mdr mcm mop mkd mam mis mip msd mrg mmn mou b ee fr f fd 3 (9 : Int32) (by first | assumption | omega | decide) (by first | assumption | omega | decide) (by first | assumption | omega | decide) (by first | assumption | omega | decide) (by first | assumption | omega | decide)) (cwV 2 hts (good_V w_ml_Mo_113 w_im_Mo_inputOf w_se_Mo_inputOf w_ini_Mo w_code_Mo_inputOf) rfl rfl rfl yd_Mo_inputOf ⟨by decide, by decide⟩) [0, 1, 2] (by decide) rfl (ci := 1) (r := vr_Mo) rfl rfl rfl rfl rfl (Nat.le_of_ble_eq_true rfl) d_Mo_next_149 ⟨by decide, by decide⟩ (fun v w' hp => by obtain ⟨-, rfl⟩ := hp; exact Nat.le_of_ble_eq_true rfl) (fun v w' H locs hp hW => ?_)
    obtain ⟨rfl, rfl⟩ := hp
    have hW : Wd G A s.heap [(h0, .inr (1, [.int mcd, .int mty, .ref mtx, .int mpl, .int mth, .int mln, .ref msc, .int (nI fr), .ref mdr, .int mcm, .int mop, .int mkd, .int (nI b), .int (nI ee), .int mam, .ref mis, .ref mip, .ref msd, .ref mrg, .int mmn, .ref mou])), (mtx, .inl (G.2 2, 120, .inl f)), (mdr, .inl (G.2 0, 400, .inl ((mInp f mkd b ee mam fd fr mcm mop 3 (9 : Int32)).2)))] H locs := hW
    refine W.eq (g2 := F0 m 152 ls [.int ((mInp f mkd b ee mam fd fr mcm mop 3 (9 : Int32)).1)]) rfl ?_
    exact Ct.iret hx hb hr hnl hW (by decide) (by decide) d_Mo_next_152 (by
      have e : mNxt f mkd b ee mam fd fr mcm mop y1 = ((mInp f mkd b ee mam fd fr mcm mop 3 (9 : Int32)).1, (mInp f mkd b ee mam fd fr mcm mop 3 (9 : Int32)).2, nI fr, mcm, mop) := by unfold mNxt; rw [if_neg hf2, if_neg hf4, if_neg hf8, if_neg hf10, if_neg hf12, if_neg hf14, if_neg hf16, if_neg hf18, if_pos ht19]
      rw [e]
      exact ⟨rfl, rfl⟩)
  have hf20 := ht19
  by_cases ht21 : y1 = 9
  · refine lv_tableIn (tgt := 153) hx hb d_Mo_next_1 (by rw [ht21]; decide) (by rw [ht21]; decide) (by rw [ht21]; rfl) rfl ?_
    refine lv_aload_n hx hb d_Mo_next_153 rfl (lv_at hl 0 rfl) ?_
    refine lv_bipush (v := 58) hx hb d_Mo_next_154 (by decide) ?_
    refine Ct.callV (As := [.int 58]) (rest := []) hx hb hml hown hts hK hA hl.1 hW (c_Mo_isItR l G h0 mcd mty mtx mpl mth mln msc (nI fr) mdr mcm mop mkd mam mis mip msd mrg mmn mou b ee f (58 : Int32) (by first | assumption | omega | decide)) (cwV 1 hts (good_V w_ml_Mo_92 w_im_Mo_isIt w_se_Mo_isIt w_ini_Mo w_code_Mo_isIt) rfl rfl rfl yd_Mo_isIt ⟨by decide, by decide⟩) [0, 1] (by decide) rfl (ci := 1) (r := vr_Mo) rfl rfl rfl rfl rfl (Nat.le_of_ble_eq_true rfl) d_Mo_next_156 ⟨by decide, by decide⟩ (fun v w' hp => by obtain ⟨-, rfl⟩ := hp; exact Nat.le_of_ble_eq_true rfl) (fun v w' H locs hp hW => ?_)
    obtain ⟨rfl, rfl⟩ := hp
    have hW : Wd G A s.heap [(h0, .inr (1, [.int mcd, .int mty, .ref mtx, .int mpl, .int mth, .int mln, .ref msc, .int (nI fr), .ref mdr, .int mcm, .int mop, .int mkd, .int (nI b), .int (nI ee), .int mam, .ref mis, .ref mip, .ref msd, .ref mrg, .int mmn, .ref mou])), (mtx, .inl (G.2 2, 120, .inl f)), (mdr, .inl (G.2 0, 400, .inl fd))] H locs := hW
    refine W.eq (g2 := F0 m 159 ls [.int (o_Mo_isIt_r mkd b f (58 : Int32))]) rfl ?_
    refine lv_if_eq (tgt := 167) hx hb d_Mo_next_159 rfl (fun ht23 => ?_) (fun hf24 => ?_)
    · refine lv_bipush (v := 16) hx hb d_Mo_next_167 (by decide) ?_
      exact Ct.iret hx hb hr hnl hW (by decide) (by decide) d_Mo_next_169 (by
      have e : mNxt f mkd b ee mam fd fr mcm mop y1 = (16, fd, (nI fr), mcm, mop) := by unfold mNxt; rw [if_neg hf2, if_neg hf4, if_neg hf8, if_neg hf10, if_neg hf12, if_neg hf14, if_neg hf16, if_neg hf18, if_neg hf20, if_pos ht21, if_pos ht23]
      rw [e]
      exact ⟨rfl, rfl⟩)
    · refine lv_bipush (v := 10) hx hb d_Mo_next_162 (by decide) ?_
      refine lv_goto (tgt := 169) hx hb d_Mo_next_164 rfl ?_
      exact Ct.iret hx hb hr hnl hW (by decide) (by decide) d_Mo_next_169 (by
      have e : mNxt f mkd b ee mam fd fr mcm mop y1 = (10, fd, (nI fr), mcm, mop) := by unfold mNxt; rw [if_neg hf2, if_neg hf4, if_neg hf8, if_neg hf10, if_neg hf12, if_neg hf14, if_neg hf16, if_neg hf18, if_neg hf20, if_pos ht21, if_neg hf24]
      rw [e]
      exact ⟨rfl, rfl⟩)
  have hf22 := ht21
  by_cases ht25 : y1 = 10
  · refine lv_tableIn (tgt := 170) hx hb d_Mo_next_1 (by rw [ht25]; decide) (by rw [ht25]; decide) (by rw [ht25]; rfl) rfl ?_
    refine lv_aload_n hx hb d_Mo_next_170 rfl (lv_at hl 0 rfl) ?_
    refine lv_iconst (v := 4) hx hb d_Mo_next_171 (by decide) ?_
    refine lv_bipush (v := 11) hx hb d_Mo_next_172 (by decide) ?_
    refine lv_bipush (v := 15) hx hb d_Mo_next_174 (by decide) ?_
    refine Ct.callV (As := [.int 4, .int 11, .int 15]) (rest := []) hx hb hml hown hts hK hA hl.1 hW (c_Mo_value l G h0 mcd mty mtx mpl mth mln msc mdr mcm mop mkd mam mis mip msd mrg mmn mou b ee fr f fd 4 (11 : Int32) (15 : Int32) (by first | assumption | omega | decide) (by first | assumption | omega | decide) (by first | assumption | omega | decide) (by first | assumption | omega | decide) (by first | assumption | omega | decide)) (cwV 3 hts (good_V w_ml_Mo_109 w_im_Mo_value w_se_Mo_value w_ini_Mo w_code_Mo_value) rfl rfl rfl yd_Mo_value ⟨by decide, by decide⟩) [0, 1, 2] (by decide) rfl (ci := 1) (r := vr_Mo) rfl rfl rfl rfl rfl (Nat.le_of_ble_eq_true rfl) d_Mo_next_176 ⟨by decide, by decide⟩ (fun v w' hp => by obtain ⟨-, rfl⟩ := hp; exact Nat.le_of_ble_eq_true rfl) (fun v w' H locs hp hW => ?_)
    obtain ⟨rfl, rfl⟩ := hp
    have hW : Wd G A s.heap [(h0, .inr (1, [.int mcd, .int mty, .ref mtx, .int mpl, .int mth, .int mln, .ref msc, .int (nI fr), .ref mdr, .int mcm, .int mop, .int mkd, .int (nI b), .int (nI ee), .int mam, .ref mis, .ref mip, .ref msd, .ref mrg, .int mmn, .ref mou])), (mtx, .inl (G.2 2, 120, .inl f)), (mdr, .inl (G.2 0, 400, .inl ((mVal f mkd b ee mam fd fr mcm mop 4 (11 : Int32) (15 : Int32)).2)))] H locs := hW
    refine W.eq (g2 := F0 m 179 ls [.int ((mVal f mkd b ee mam fd fr mcm mop 4 (11 : Int32) (15 : Int32)).1)]) rfl ?_
    exact Ct.iret hx hb hr hnl hW (by decide) (by decide) d_Mo_next_179 (by
      have e : mNxt f mkd b ee mam fd fr mcm mop y1 = ((mVal f mkd b ee mam fd fr mcm mop 4 (11 : Int32) (15 : Int32)).1, (mVal f mkd b ee mam fd fr mcm mop 4 (11 : Int32) (15 : Int32)).2, nI fr, mcm, mop) := by unfold mNxt; rw [if_neg hf2, if_neg hf4, if_neg hf8, if_neg hf10, if_neg hf12, if_neg hf14, if_neg hf16, if_neg hf18, if_neg hf20, if_neg hf22, if_pos ht25]
      rw [e]
      exact ⟨rfl, rfl⟩)
  have hf26 := ht25
  by_cases ht27 : y1 = 11
  · refine lv_tableIn (tgt := 180) hx hb d_Mo_next_1 (by rw [ht27]; decide) (by rw [ht27]; decide) (by rw [ht27]; rfl) rfl ?_
    refine lv_aload_n hx hb d_Mo_next_180 rfl (lv_at hl 0 rfl) ?_
    refine lv_iconst (v := 4) hx hb d_Mo_next_181 (by decide) ?_
    refine lv_bipush (v := 15) hx hb d_Mo_next_182 (by decide) ?_
    refine Ct.callV (As := [.int 4, .int 15]) (rest := []) hx hb hml hown hts hK hA hl.1 hW (c_Mo_inputOf l G h0 mcd mty mtx mpl mth mln msc mdr mcm mop mkd mam mis mip msd mrg mmn mou b ee fr f fd 4 (15 : Int32) (by first | assumption | omega | decide) (by first | assumption | omega | decide) (by first | assumption | omega | decide) (by first | assumption | omega | decide) (by first | assumption | omega | decide)) (cwV 2 hts (good_V w_ml_Mo_113 w_im_Mo_inputOf w_se_Mo_inputOf w_ini_Mo w_code_Mo_inputOf) rfl rfl rfl yd_Mo_inputOf ⟨by decide, by decide⟩) [0, 1, 2] (by decide) rfl (ci := 1) (r := vr_Mo) rfl rfl rfl rfl rfl (Nat.le_of_ble_eq_true rfl) d_Mo_next_184 ⟨by decide, by decide⟩ (fun v w' hp => by obtain ⟨-, rfl⟩ := hp; exact Nat.le_of_ble_eq_true rfl) (fun v w' H locs hp hW => ?_)
    obtain ⟨rfl, rfl⟩ := hp
    have hW : Wd G A s.heap [(h0, .inr (1, [.int mcd, .int mty, .ref mtx, .int mpl, .int mth, .int mln, .ref msc, .int (nI fr), .ref mdr, .int mcm, .int mop, .int mkd, .int (nI b), .int (nI ee), .int mam, .ref mis, .ref mip, .ref msd, .ref mrg, .int mmn, .ref mou])), (mtx, .inl (G.2 2, 120, .inl f)), (mdr, .inl (G.2 0, 400, .inl ((mInp f mkd b ee mam fd fr mcm mop 4 (15 : Int32)).2)))] H locs := hW
    refine W.eq (g2 := F0 m 187 ls [.int ((mInp f mkd b ee mam fd fr mcm mop 4 (15 : Int32)).1)]) rfl ?_
    exact Ct.iret hx hb hr hnl hW (by decide) (by decide) d_Mo_next_187 (by
      have e : mNxt f mkd b ee mam fd fr mcm mop y1 = ((mInp f mkd b ee mam fd fr mcm mop 4 (15 : Int32)).1, (mInp f mkd b ee mam fd fr mcm mop 4 (15 : Int32)).2, nI fr, mcm, mop) := by unfold mNxt; rw [if_neg hf2, if_neg hf4, if_neg hf8, if_neg hf10, if_neg hf12, if_neg hf14, if_neg hf16, if_neg hf18, if_neg hf20, if_neg hf22, if_neg hf26, if_pos ht27]
      rw [e]
      exact ⟨rfl, rfl⟩)
  have hf28 := ht27
  by_cases ht29 : y1 = 12
  · refine lv_tableIn (tgt := 188) hx hb d_Mo_next_1 (by rw [ht29]; decide) (by rw [ht29]; decide) (by rw [ht29]; rfl) rfl ?_
    refine lv_aload_n hx hb d_Mo_next_188 rfl (lv_at hl 0 rfl) ?_
    refine lv_bipush (v := 13) hx hb d_Mo_next_189 (by decide) ?_
    refine Ct.callV (As := [.int 13]) (rest := []) hx hb hml hown hts hK hA hl.1 hW (c_Mo_named l G h0 mcd mty mtx mpl mth mln msc mdr mcm mop mkd mam mis mip msd mrg mmn mou b ee fr f fd (13 : Int32) (by first | assumption | omega | decide) (by first | assumption | omega | decide) (by first | assumption | omega | decide) (by first | assumption | omega | decide)) (cwV 1 hts (good_V w_ml_Mo_119 w_im_Mo_named w_se_Mo_named w_ini_Mo w_code_Mo_named) rfl rfl rfl yd_Mo_named ⟨by decide, by decide⟩) [0, 1, 2] (by decide) rfl (ci := 1) (r := vr_Mo) rfl rfl rfl rfl rfl (Nat.le_of_ble_eq_true rfl) d_Mo_next_191 ⟨by decide, by decide⟩ (fun v w' hp => by obtain ⟨-, rfl⟩ := hp; exact Nat.le_of_ble_eq_true rfl) (fun v w' H locs hp hW => ?_)
    obtain ⟨rfl, rfl⟩ := hp
    have hW : Wd G A s.heap [(h0, .inr (1, [.int mcd, .int mty, .ref mtx, .int mpl, .int mth, .int mln, .ref msc, .int (nI fr), .ref mdr, .int mcm, .int mop, .int mkd, .int (nI b), .int (nI ee), .int mam, .ref mis, .ref mip, .ref msd, .ref mrg, .int mmn, .ref mou])), (mtx, .inl (G.2 2, 120, .inl f)), (mdr, .inl (G.2 0, 400, .inl ((mNam f mkd b ee mam fd fr mcm mop (13 : Int32)).2)))] H locs := hW
    refine W.eq (g2 := F0 m 194 ls [.int ((mNam f mkd b ee mam fd fr mcm mop (13 : Int32)).1)]) rfl ?_
    exact Ct.iret hx hb hr hnl hW (by decide) (by decide) d_Mo_next_194 (by
      have e : mNxt f mkd b ee mam fd fr mcm mop y1 = ((mNam f mkd b ee mam fd fr mcm mop (13 : Int32)).1, (mNam f mkd b ee mam fd fr mcm mop (13 : Int32)).2, nI fr, mcm, mop) := by unfold mNxt; rw [if_neg hf2, if_neg hf4, if_neg hf8, if_neg hf10, if_neg hf12, if_neg hf14, if_neg hf16, if_neg hf18, if_neg hf20, if_neg hf22, if_neg hf26, if_neg hf28, if_pos ht29]
      rw [e]
      exact ⟨rfl, rfl⟩)
  have hf30 := ht29
  by_cases ht31 : y1 = 13
  · refine lv_tableIn (tgt := 195) hx hb d_Mo_next_1 (by rw [ht31]; decide) (by rw [ht31]; decide) (by rw [ht31]; rfl) rfl ?_
    refine lv_aload_n hx hb d_Mo_next_195 rfl (lv_at hl 0 rfl) ?_
    refine Wd.get hx hb hts hown hK hW 0 11 in_Mo w_fl_Mo_71 (by decide) d_Mo_next_196 rfl rfl rfl ?_
    refine lv_iconst (v := 1) hx hb d_Mo_next_199 (by decide) ?_
    refine lv_icmp_ne (tgt := 210) hx hb d_Mo_next_200 rfl (fun ht33 => ?_) (fun hf34 => ?_)
    · refine lv_bipush (v := 16) hx hb d_Mo_next_210 (by decide) ?_
      exact Ct.iret hx hb hr hnl hW (by decide) (by decide) d_Mo_next_212 (by
      have e : mNxt f mkd b ee mam fd fr mcm mop y1 = (16, fd, nI fr, mcm, mop) := by unfold mNxt; rw [if_neg hf2, if_neg hf4, if_neg hf8, if_neg hf10, if_neg hf12, if_neg hf14, if_neg hf16, if_neg hf18, if_neg hf20, if_neg hf22, if_neg hf26, if_neg hf28, if_neg hf30, if_pos ht31, if_neg ht33]
      rw [e]
      exact ⟨rfl, rfl⟩)
    · refine lv_aload_n hx hb d_Mo_next_203 rfl (lv_at hl 0 rfl) ?_
      refine Ct.callV (As := []) (rest := []) hx hb hml hown hts hK hA hl.1 hW (c_Mo_to l G h0 mcd mty mtx mpl mth mln msc mdr mcm mop mkd mam mis mip msd mrg mmn mou b ee fr f fd (by first | assumption | omega | decide) (by first | assumption | omega | decide) (by first | assumption | omega | decide) (by first | assumption | omega | decide) (by first | assumption | omega | decide)) (cwV 0 hts (good_V w_ml_Mo_123 w_im_Mo_to w_se_Mo_to w_ini_Mo w_code_Mo_to) rfl rfl rfl yd_Mo_to ⟨by decide, by decide⟩) [0, 1, 2] (by decide) rfl (ci := 1) (r := vr_Mo) rfl rfl rfl rfl rfl (Nat.le_of_ble_eq_true rfl) d_Mo_next_204 ⟨by decide, by decide⟩ (fun v w' hp => by obtain ⟨-, rfl⟩ := hp; exact Nat.le_of_ble_eq_true rfl) (fun v w' H locs hp hW => ?_)
      obtain ⟨rfl, rfl⟩ := hp
      have hW : Wd G A s.heap [(h0, .inr (1, [.int mcd, .int mty, .ref mtx, .int mpl, .int mth, .int mln, .ref msc, .int (nI fr), .ref mdr, .int ((mTo f mkd b ee mam fd fr mcm mop).2.2), .int mop, .int mkd, .int (nI b), .int (nI ee), .int mam, .ref mis, .ref mip, .ref msd, .ref mrg, .int mmn, .ref mou])), (mtx, .inl (G.2 2, 120, .inl f)), (mdr, .inl (G.2 0, 400, .inl ((mTo f mkd b ee mam fd fr mcm mop).2.1)))] H locs := hW
      refine W.eq (g2 := F0 m 207 ls [.int ((mTo f mkd b ee mam fd fr mcm mop).1)]) rfl ?_
      refine lv_goto (tgt := 212) hx hb d_Mo_next_207 rfl ?_
      exact Ct.iret hx hb hr hnl hW (by decide) (by decide) d_Mo_next_212 (by
      have e : mNxt f mkd b ee mam fd fr mcm mop y1 = ((mTo f mkd b ee mam fd fr mcm mop).1, (mTo f mkd b ee mam fd fr mcm mop).2.1, nI fr, (mTo f mkd b ee mam fd fr mcm mop).2.2, mop) := by unfold mNxt; rw [if_neg hf2, if_neg hf4, if_neg hf8, if_neg hf10, if_neg hf12, if_neg hf14, if_neg hf16, if_neg hf18, if_neg hf20, if_neg hf22, if_neg hf26, if_neg hf28, if_neg hf30, if_pos ht31, if_pos hf34]
      rw [e]
      exact ⟨rfl, rfl⟩)
  have hf32 := ht31
  by_cases ht35 : y1 = 14
  · refine lv_tableIn (tgt := 213) hx hb d_Mo_next_1 (by rw [ht35]; decide) (by rw [ht35]; decide) (by rw [ht35]; rfl) rfl ?_
    refine lv_aload_n hx hb d_Mo_next_213 rfl (lv_at hl 0 rfl) ?_
    refine lv_bipush (v := 15) hx hb d_Mo_next_214 (by decide) ?_
    refine Ct.callV (As := [.int 15]) (rest := []) hx hb hml hown hts hK hA hl.1 hW (c_Mo_named l G h0 mcd mty mtx mpl mth mln msc mdr mcm mop mkd mam mis mip msd mrg mmn mou b ee fr f fd (15 : Int32) (by first | assumption | omega | decide) (by first | assumption | omega | decide) (by first | assumption | omega | decide) (by first | assumption | omega | decide)) (cwV 1 hts (good_V w_ml_Mo_119 w_im_Mo_named w_se_Mo_named w_ini_Mo w_code_Mo_named) rfl rfl rfl yd_Mo_named ⟨by decide, by decide⟩) [0, 1, 2] (by decide) rfl (ci := 1) (r := vr_Mo) rfl rfl rfl rfl rfl (Nat.le_of_ble_eq_true rfl) d_Mo_next_216 ⟨by decide, by decide⟩ (fun v w' hp => by obtain ⟨-, rfl⟩ := hp; exact Nat.le_of_ble_eq_true rfl) (fun v w' H locs hp hW => ?_)
    obtain ⟨rfl, rfl⟩ := hp
    have hW : Wd G A s.heap [(h0, .inr (1, [.int mcd, .int mty, .ref mtx, .int mpl, .int mth, .int mln, .ref msc, .int (nI fr), .ref mdr, .int mcm, .int mop, .int mkd, .int (nI b), .int (nI ee), .int mam, .ref mis, .ref mip, .ref msd, .ref mrg, .int mmn, .ref mou])), (mtx, .inl (G.2 2, 120, .inl f)), (mdr, .inl (G.2 0, 400, .inl ((mNam f mkd b ee mam fd fr mcm mop (15 : Int32)).2)))] H locs := hW
    refine W.eq (g2 := F0 m 219 ls [.int ((mNam f mkd b ee mam fd fr mcm mop (15 : Int32)).1)]) rfl ?_
    exact Ct.iret hx hb hr hnl hW (by decide) (by decide) d_Mo_next_219 (by
      have e : mNxt f mkd b ee mam fd fr mcm mop y1 = ((mNam f mkd b ee mam fd fr mcm mop (15 : Int32)).1, (mNam f mkd b ee mam fd fr mcm mop (15 : Int32)).2, nI fr, mcm, mop) := by unfold mNxt; rw [if_neg hf2, if_neg hf4, if_neg hf8, if_neg hf10, if_neg hf12, if_neg hf14, if_neg hf16, if_neg hf18, if_neg hf20, if_neg hf22, if_neg hf26, if_neg hf28, if_neg hf30, if_neg hf32, if_pos ht35]
      rw [e]
      exact ⟨rfl, rfl⟩)
  have hf36 := ht35
  refine lv_tableOut (tgt := 220) hx hb d_Mo_next_1 (by have n0 := lv_neT hf2 (a := 0) (by decide); have n1 := lv_neT hf4 (a := 1) (by decide); have n2 := lv_neT hf8 (a := 2) (by decide); have n3 := lv_neT hf10 (a := 3) (by decide); have n4 := lv_neT hf12 (a := 4) (by decide); have n5 := lv_neT hf14 (a := 5) (by decide); have n6 := lv_neT hf16 (a := 6) (by decide); have n7 := lv_neT hf18 (a := 7) (by decide); have n8 := lv_neT hf20 (a := 8) (by decide); have n9 := lv_neT hf22 (a := 9) (by decide); have n10 := lv_neT hf26 (a := 10) (by decide); have n11 := lv_neT hf28 (a := 11) (by decide); have n12 := lv_neT hf30 (a := 12) (by decide); have n13 := lv_neT hf32 (a := 13) (by decide); have n14 := lv_neT hf36 (a := 14) (by decide); omega) rfl ?_
  refine lv_aload_n hx hb d_Mo_next_220 rfl (lv_at hl 0 rfl) ?_
  refine Ct.callV (As := []) (rest := []) hx hb hml hown hts hK hA hl.1 hW (c_Mo_after l G h0 mcd mty mtx mpl mth mln msc mdr mcm mop mkd mam mis mip msd mrg mmn mou b ee fr f fd (by first | assumption | omega | decide) (by first | assumption | omega | decide) (by first | assumption | omega | decide) (by first | assumption | omega | decide)) (cwV 0 hts (good_V w_ml_Mo_98 w_im_Mo_after w_se_Mo_after w_ini_Mo w_code_Mo_after) rfl rfl rfl yd_Mo_after ⟨by decide, by decide⟩) [0, 1, 2] (by decide) rfl (ci := 1) (r := vr_Mo) rfl rfl rfl rfl rfl (Nat.le_of_ble_eq_true rfl) d_Mo_next_221 ⟨by decide, by decide⟩ (fun v w' hp => by obtain ⟨-, rfl⟩ := hp; exact Nat.le_of_ble_eq_true rfl) (fun v w' H locs hp hW => ?_)
  obtain ⟨rfl, rfl⟩ := hp
  have hW : Wd G A s.heap [(h0, .inr (1, [.int mcd, .int mty, .ref mtx, .int mpl, .int mth, .int mln, .ref msc, .int ((mAft f mkd b ee mam fd fr mcm mop).2), .ref mdr, .int mcm, .int mop, .int mkd, .int (nI b), .int (nI ee), .int mam, .ref mis, .ref mip, .ref msd, .ref mrg, .int mmn, .ref mou])), (mtx, .inl (G.2 2, 120, .inl f)), (mdr, .inl (G.2 0, 400, .inl fd))] H locs := hW
  refine W.eq (g2 := F0 m 224 ls [.int ((mAft f mkd b ee mam fd fr mcm mop).1)]) rfl ?_
  exact Ct.iret hx hb hr hnl hW (by decide) (by decide) d_Mo_next_224 (by
      have e : mNxt f mkd b ee mam fd fr mcm mop y1 = ((mAft f mkd b ee mam fd fr mcm mop).1, fd, (mAft f mkd b ee mam fd fr mcm mop).2, mcm, mop) := by unfold mNxt; rw [if_neg hf2, if_neg hf4, if_neg hf8, if_neg hf10, if_neg hf12, if_neg hf14, if_neg hf16, if_neg hf18, if_neg hf20, if_neg hf22, if_neg hf26, if_neg hf28, if_neg hf30, if_neg hf32, if_neg hf36]
      rw [e]
      exact ⟨rfl, rfl⟩)

