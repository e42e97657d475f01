/-! the reference: may it run -/
def lk (sc fz : Nat → Int32) (k i : Nat) : Int32 := o_Mo_lacks_r fz (sc ((6 * (nI k)) + nI i).toNatClampNeg)
def myG (sc fz : Nat → Int32) : Nat → Nat → Int32
  | 0, _ => 1
  | u + 1, k => if lk sc fz k 2 = 0 then (if lk sc fz k 3 = 0 then (if lk sc fz k 4 = 0 then myG sc fz u (k + 1) else 0) else 0) else 0
theorem myG_s {sc fz : Nat → Int32} {u k : Nat} (hu : 0 < u) : myG sc fz u k = if lk sc fz k 2 = 0 then (if lk sc fz k 3 = 0 then (if lk sc fz k 4 = 0 then myG sc fz (u - 1) (k + 1) else 0) else 0) else 0 := by
  obtain ⟨w, rfl⟩ : ∃ w, u = w + 1 := ⟨u - 1, by omega⟩
  rfl
def mMay (mth : Int32) (fs sc fz : Nat → Int32) (ln : Nat) : Int32 := if mth = 0 then 0 else if fs 0 = 0 then 0 else if fs 1 = 0 then 0 else if fs 2 = 0 then 0 else myG sc fz ln 0
def myI (sc fz : Nat → Int32) (ln : Nat) (k : Nat) (my res : Int32) : Prop := (my = 1 ∧ myG sc fz (ln - k) k = res) ∨ (my = 0 ∧ res = 0)
theorem myI_b {sc fz : Nat → Int32} {ln k : Nat} {my res : Int32} (h : myI sc fz ln k my res) : my = 0 ∨ my = 1 := by
  rcases h with ⟨h, -⟩ | ⟨h, -⟩
  · exact Or.inr h
  · exact Or.inl h
theorem myI_1 {sc fz : Nat → Int32} {ln k : Nat} {my res : Int32} (h : myI sc fz ln k my res) (hm : ¬ my = 0) : myG sc fz (ln - k) k = res := by
  rcases h with ⟨-, h⟩ | ⟨h, -⟩
  · exact h
  · exact absurd h hm
theorem myI_end {sc fz : Nat → Int32} {ln k : Nat} {my res : Int32} (h : myI sc fz ln k my res) (hk : ln ≤ k) : my = res := by
  rcases h with ⟨h1, h⟩ | ⟨h1, h⟩
  · rw [show ln - k = 0 by omega] at h; rw [h1, ← h]; rfl
  · rw [h1, h]
theorem myI_0 {sc fz : Nat → Int32} {ln k : Nat} {my res : Int32} (h : myI sc fz ln k my res) (hm : my = 0) : my = res := by
  rcases h with ⟨h1, h⟩ | ⟨h1, h⟩
  · rw [h1] at hm; exact absurd hm (by decide)
  · rw [h1, h]

abbrev rm_Mo_mayRun : Room := { frames := 1, cells := 0, slots := 0, locals := 21 }
set_option maxHeartbeats 4000000 in
set_option maxRecDepth 100000 in
theorem c_Mo_mayRun (l : Launch) (G : Gt) (h0 : Nat) (mcd : Int32) (mty : Int32) (mtx : Nat) (mpl : Int32) (mth : Int32) (msc : Nat) (mfr : Int32) (mdr : Nat) (mcm : Int32) (mop : Int32) (mkd : Int32) (mbg : Int32) (mnd : Int32) (mam : Int32) (mis : Nat) (mip : Nat) (msd : Nat) (mrg : Nat) (mmn : Int32) (mou : Nat) (ln : Nat) (sc : Nat → Int32) (fz : Nat → Int32) (fs : Nat → Int32) (hln : ln ≤ 60) (hv : ∀ j, ¬ sc j < 100 → sc j < 1000 → vp_in (sc j - 100) 8) : Ct l G y_Mo_mayRun b_Mo_mayRun 3 (some .boolean) rm_Mo_mayRun [.ref h0] [(h0, .inr (1, [.int mcd, .int mty, .ref mtx, .int mpl, .int mth, .int (nI ln), .ref msc, .int mfr, .ref mdr, .int mcm, .int mop, .int mkd, .int mbg, .int mnd, .int mam, .ref mis, .ref mip, .ref msd, .ref mrg, .int mmn, .ref mou])), (msc, .inl (G.2 0, 400, .inl sc)), (mis, .inl (G.2 3, 8, .inl fz)), (msd, .inl (G.2 3, 3, .inl fs))] 0 0 (fun v w' => v = some (.int (mMay mth fs sc fz ln)) ∧ w' = [(h0, .inr (1, [.int mcd, .int mty, .ref mtx, .int mpl, .int mth, .int (nI ln), .ref msc, .int mfr, .ref mdr, .int mcm, .int mop, .int mkd, .int mbg, .int mnd, .int mam, .ref mis, .ref mip, .ref msd, .ref mrg, .int mmn, .ref mou])), (msc, .inl (G.2 0, 400, .inl sc)), (mis, .inl (G.2 3, 8, .inl fz)), (msd, .inl (G.2 3, 3, .inl fs))]) := by
  refine Ct.of (by decide) (Nat.le_of_ble_eq_true rfl) (fun p e s m args below meth c A ls H locs hx hb hml hr hnl hown hts hnm hK hA hl hW => ?_)
  have hl : lv_has ls 3 [(0, .ref h0)] := hl
  refine lv_aload_n hx hb d_Mo_mayRun_0 rfl (lv_at hl 0 rfl) ?_
  refine Wd.get hx hb hts hown hK hW 0 4 in_Mo w_fl_Mo_136 (by decide) d_Mo_mayRun_1 rfl rfl rfl ?_
  refine lv_if_eq (tgt := 38) hx hb d_Mo_mayRun_4 rfl (fun ht1 => ?_) (fun hf2 => ?_)
  · refine lv_iconst (v := 0) hx hb d_Mo_mayRun_38 (by decide) ?_
    refine lv_istore_n (lv' := [(1, .int 0), (0, .ref h0)]) hx hb d_Mo_mayRun_39 rfl hl (by decide) rfl (fun ls hl => ?_)
    refine lv_iconst (v := 0) hx hb d_Mo_mayRun_40 (by decide) ?_
    refine lv_istore_n (lv' := [(2, .int 0), (1, .int 0), (0, .ref h0)]) hx hb d_Mo_mayRun_41 rfl hl (by decide) rfl (fun ls hl => ?_)
    have loop42 : ∀ (u : Nat) (k : Nat) (my : Int32) (ls : Array Slot) (H : Heap) (locs : List Loc), k ≤ ln → myI sc fz ln k my (mMay mth fs sc fz ln) → (ln - k) < u → lv_has ls 3 [(0, .ref h0), (1, .int my), (2, .int (nI k))] → Wd G A s.heap [(h0, .inr (1, [.int mcd, .int mty, .ref mtx, .int mpl, .int mth, .int (nI ln), .ref msc, .int mfr, .ref mdr, .int mcm, .int mop, .int mkd, .int mbg, .int mnd, .int mam, .ref mis, .ref mip, .ref msd, .ref mrg, .int mmn, .ref mou])), (msc, .inl (G.2 0, 400, .inl sc)), (mis, .inl (G.2 3, 8, .inl fz)), (msd, .inl (G.2 3, 3, .inl fs))] H locs → W p l e rm_Mo_mayRun s m args below meth c H locs 0 0 (MQ below (Qcc G (fun v w' => v = some (.int (mMay mth fs sc fz ln)) ∧ w' = [(h0, .inr (1, [.int mcd, .int mty, .ref mtx, .int mpl, .int mth, .int (nI ln), .ref msc, .int mfr, .ref mdr, .int mcm, .int mop, .int mkd, .int mbg, .int mnd, .int mam, .ref mis, .ref mip, .ref msd, .ref mrg, .int mmn, .ref mou])), (msc, .inl (G.2 0, 400, .inl sc)), (mis, .inl (G.2 3, 8, .inl fz)), (msd, .inl (G.2 3, 3, .inl fs))]) A) args s 0 0 A) (F0 m 42 ls []) := by
      intro u
      induction u with
      | zero => intro k my ls H locs hk hI hu; exact absurd hu (Nat.not_lt_zero _)
      | succ u ih42 =>
        intro k my ls H locs hk hI hu42 hl hW
        refine lv_iload_n hx hb d_Mo_mayRun_42 rfl (lv_at hl 2 rfl) ?_
        refine lv_aload_n hx hb d_Mo_mayRun_43 rfl (lv_at hl 0 rfl) ?_
        refine Wd.get hx hb hts hown hK hW 0 5 in_Mo w_fl_Mo_140 (by decide) d_Mo_mayRun_44 rfl rfl rfl ?_
        refine lv_icmp_ge (tgt := 120) hx hb d_Mo_mayRun_47 rfl (fun ht9 => ?_) (fun hf10 => ?_)
        · have hkn : ln ≤ k := (nI_leI (a := ln) (b := k) (by omega) (by omega)).mp ht9
          refine lv_iload_n hx hb d_Mo_mayRun_120 rfl (lv_at hl 1 rfl) ?_
          exact Ct.zret hx hb hr hnl hW (by decide) (by decide) d_Mo_mayRun_121 (by exact nb01 (myI_b hI)) (by rw [myI_end hI hkn]; exact ⟨rfl, rfl⟩)
        · have hkn : k < ln := by apply Nat.lt_of_not_le; intro q; exact hf10 (nI_le q (by omega))
          refine lv_iload_n hx hb d_Mo_mayRun_50 rfl (lv_at hl 1 rfl) ?_
          refine lv_if_eq (tgt := 120) hx hb d_Mo_mayRun_51 rfl (fun ht11 => ?_) (fun hf12 => ?_)
          · refine lv_iload_n hx hb d_Mo_mayRun_120 rfl (lv_at hl 1 rfl) ?_
            exact Ct.zret hx hb hr hnl hW (by decide) (by decide) d_Mo_mayRun_121 (by exact nb01 (myI_b hI)) (by rw [myI_0 hI ht11]; exact ⟨rfl, rfl⟩)
          · refine lv_aload_n hx hb d_Mo_mayRun_54 rfl (lv_at hl 0 rfl) ?_
            refine lv_aload_n hx hb d_Mo_mayRun_55 rfl (lv_at hl 0 rfl) ?_
            refine Wd.get hx hb hts hown hK hW 0 6 in_Mo w_fl_Mo_17 (by decide) d_Mo_mayRun_56 rfl rfl rfl ?_
            refine lv_bipush (v := 6) hx hb d_Mo_mayRun_59 (by decide) ?_
            refine lv_iload_n hx hb d_Mo_mayRun_61 rfl (lv_at hl 2 rfl) ?_
            refine lv_imul hx hb d_Mo_mayRun_62 ?_
            refine lv_iconst (v := 2) hx hb d_Mo_mayRun_63 (by decide) ?_
            refine lv_iadd hx hb d_Mo_mayRun_64 ?_
            refine Wd.iald hx hb hK hW 1 d_Mo_mayRun_65 rfl (put_in (k := 2) (fr := k) (by omega) (by decide)) ?_
            refine Ct.callV (As := [.int (sc (((6 * (nI k)) + 2).toNatClampNeg))]) (rest := []) hx hb hml hown hts hK hA hl.1 hW (c_Mo_lacks l G h0 mcd mty mtx mpl mth (nI ln) msc mfr mdr mcm mop mkd mbg mnd mam mis mip msd mrg mmn mou fz (sc (((6 * (nI k)) + 2).toNatClampNeg)) (hv _)) (cwV 1 hts (good_V w_ml_Mo_143 w_im_Mo_lacks w_se_Mo_lacks w_ini_Mo w_code_Mo_lacks) rfl rfl rfl yd_Mo_lacks ⟨by decide, by decide⟩) [0, 2] (by decide) rfl (ci := 1) (r := vr_Mo) rfl rfl rfl rfl rfl (Nat.le_of_ble_eq_true rfl) d_Mo_mayRun_66 ⟨by decide, by decide⟩ (fun v w' hp => by obtain ⟨-, rfl⟩ := hp; exact Nat.le_of_ble_eq_true rfl) (fun v w' H locs hp hW => ?_)
            obtain ⟨rfl, rfl⟩ := hp
            have hW : Wd G A s.heap [(h0, .inr (1, [.int mcd, .int mty, .ref mtx, .int mpl, .int mth, .int (nI ln), .ref msc, .int mfr, .ref mdr, .int mcm, .int mop, .int mkd, .int mbg, .int mnd, .int mam, .ref mis, .ref mip, .ref msd, .ref mrg, .int mmn, .ref mou])), (msc, .inl (G.2 0, 400, .inl sc)), (mis, .inl (G.2 3, 8, .inl fz)), (msd, .inl (G.2 3, 3, .inl fs))] H locs := hW
            refine W.eq (g2 := F0 m 69 ls [.int (o_Mo_lacks_r fz (sc (((6 * (nI k)) + 2).toNatClampNeg)))]) rfl ?_
            refine lv_if_ne (tgt := 112) hx hb d_Mo_mayRun_69 rfl (fun ht13 => ?_) (fun hf14 => ?_)
            · refine lv_iconst (v := 0) hx hb d_Mo_mayRun_112 (by decide) ?_
              refine lv_istore_n (lv' := [(1, .int 0), (0, .ref h0), (2, .int (nI k))]) hx hb d_Mo_mayRun_113 rfl hl (by decide) rfl (fun ls hl => ?_)
              refine lv_iinc (k := 2) (v := nI (k + 1)) (lv' := [(2, .int (nI (k + 1))), (1, .int 0), (0, .ref h0)]) hx hb d_Mo_mayRun_114 hl rfl (nI_succ k).symm (by decide) rfl (fun ls hl => ?_)
              refine lv_goto (tgt := 42) hx hb d_Mo_mayRun_117 rfl ?_
              exact ih42 (k + 1) 0 ls H locs (by omega) (by have q := myI_1 hI hf12; rw [myG_s (by omega), if_neg (show ¬ lk sc fz k 2 = 0 from ht13)] at q; exact Or.inr ⟨rfl, q.symm⟩) (by omega) (lv_sub hl [2, 1, 0] rfl) hW
            · refine lv_aload_n hx hb d_Mo_mayRun_72 rfl (lv_at hl 0 rfl) ?_
              refine lv_aload_n hx hb d_Mo_mayRun_73 rfl (lv_at hl 0 rfl) ?_
              refine Wd.get hx hb hts hown hK hW 0 6 in_Mo w_fl_Mo_17 (by decide) d_Mo_mayRun_74 rfl rfl rfl ?_
              refine lv_bipush (v := 6) hx hb d_Mo_mayRun_77 (by decide) ?_
              refine lv_iload_n hx hb d_Mo_mayRun_79 rfl (lv_at hl 2 rfl) ?_
              refine lv_imul hx hb d_Mo_mayRun_80 ?_
              refine lv_iconst (v := 3) hx hb d_Mo_mayRun_81 (by decide) ?_
              refine lv_iadd hx hb d_Mo_mayRun_82 ?_
              refine Wd.iald hx hb hK hW 1 d_Mo_mayRun_83 rfl (put_in (k := 3) (fr := k) (by omega) (by decide)) ?_
              refine Ct.callV (As := [.int (sc (((6 * (nI k)) + 3).toNatClampNeg))]) (rest := []) hx hb hml hown hts hK hA hl.1 hW (c_Mo_lacks l G h0 mcd mty mtx mpl mth (nI ln) msc mfr mdr mcm mop mkd mbg mnd mam mis mip msd mrg mmn mou fz (sc (((6 * (nI k)) + 3).toNatClampNeg)) (hv _)) (cwV 1 hts (good_V w_ml_Mo_143 w_im_Mo_lacks w_se_Mo_lacks w_ini_Mo w_code_Mo_lacks) rfl rfl rfl yd_Mo_lacks ⟨by decide, by decide⟩) [0, 2] (by decide) rfl (ci := 1) (r := vr_Mo) rfl rfl rfl rfl rfl (Nat.le_of_ble_eq_true rfl) d_Mo_mayRun_84 ⟨by decide, by decide⟩ (fun v w' hp => by obtain ⟨-, rfl⟩ := hp; exact Nat.le_of_ble_eq_true rfl) (fun v w' H locs hp hW => ?_)
              obtain ⟨rfl, rfl⟩ := hp
              have hW : Wd G A s.heap [(h0, .inr (1, [.int mcd, .int mty, .ref mtx, .int mpl, .int mth, .int (nI ln), .ref msc, .int mfr, .ref mdr, .int mcm, .int mop, .int mkd, .int mbg, .int mnd, .int mam, .ref mis, .ref mip, .ref msd, .ref mrg, .int mmn, .ref mou])), (msc, .inl (G.2 0, 400, .inl sc)), (mis, .inl (G.2 3, 8, .inl fz)), (msd, .inl (G.2 3, 3, .inl fs))] H locs := hW
              refine W.eq (g2 := F0 m 87 ls [.int (o_Mo_lacks_r fz (sc (((6 * (nI k)) + 3).toNatClampNeg)))]) rfl ?_
              refine lv_if_ne (tgt := 112) hx hb d_Mo_mayRun_87 rfl (fun ht15 => ?_) (fun hf16 => ?_)
              · refine lv_iconst (v := 0) hx hb d_Mo_mayRun_112 (by decide) ?_
                refine lv_istore_n (lv' := [(1, .int 0), (0, .ref h0), (2, .int (nI k))]) hx hb d_Mo_mayRun_113 rfl hl (by decide) rfl (fun ls hl => ?_)
                refine lv_iinc (k := 2) (v := nI (k + 1)) (lv' := [(2, .int (nI (k + 1))), (1, .int 0), (0, .ref h0)]) hx hb d_Mo_mayRun_114 hl rfl (nI_succ k).symm (by decide) rfl (fun ls hl => ?_)
                refine lv_goto (tgt := 42) hx hb d_Mo_mayRun_117 rfl ?_
                exact ih42 (k + 1) 0 ls H locs (by omega) (by have q := myI_1 hI hf12; rw [myG_s (by omega), if_pos (show lk sc fz k 2 = 0 from hf14), if_neg (show ¬ lk sc fz k 3 = 0 from ht15)] at q; exact Or.inr ⟨rfl, q.symm⟩) (by omega) (lv_sub hl [2, 1, 0] rfl) hW
              · refine lv_aload_n hx hb d_Mo_mayRun_90 rfl (lv_at hl 0 rfl) ?_
                refine lv_aload_n hx hb d_Mo_mayRun_91 rfl (lv_at hl 0 rfl) ?_
                refine Wd.get hx hb hts hown hK hW 0 6 in_Mo w_fl_Mo_17 (by decide) d_Mo_mayRun_92 rfl rfl rfl ?_
                refine lv_bipush (v := 6) hx hb d_Mo_mayRun_95 (by decide) ?_
                refine lv_iload_n hx hb d_Mo_mayRun_97 rfl (lv_at hl 2 rfl) ?_
                refine lv_imul hx hb d_Mo_mayRun_98 ?_
                refine lv_iconst (v := 4) hx hb d_Mo_mayRun_99 (by decide) ?_
                refine lv_iadd hx hb d_Mo_mayRun_100 ?_
                refine Wd.iald hx hb hK hW 1 d_Mo_mayRun_101 rfl (put_in (k := 4) (fr := k) (by omega) (by decide)) ?_
                refine Ct.callV (As := [.int (sc (((6 * (nI k)) + 4).toNatClampNeg))]) (rest := []) hx hb hml hown hts hK hA hl.1 hW (c_Mo_lacks l G h0 mcd mty mtx mpl mth (nI ln) msc mfr mdr mcm mop mkd mbg mnd mam mis mip msd mrg mmn mou fz (sc (((6 * (nI k)) + 4).toNatClampNeg)) (hv _)) (cwV 1 hts (good_V w_ml_Mo_143 w_im_Mo_lacks w_se_Mo_lacks w_ini_Mo w_code_Mo_lacks) rfl rfl rfl yd_Mo_lacks ⟨by decide, by decide⟩) [0, 2] (by decide) rfl (ci := 1) (r := vr_Mo) rfl rfl rfl rfl rfl (Nat.le_of_ble_eq_true rfl) d_Mo_mayRun_102 ⟨by decide, by decide⟩ (fun v w' hp => by obtain ⟨-, rfl⟩ := hp; exact Nat.le_of_ble_eq_true rfl) (fun v w' H locs hp hW => ?_)
                obtain ⟨rfl, rfl⟩ := hp
                have hW : Wd G A s.heap [(h0, .inr (1, [.int mcd, .int mty, .ref mtx, .int mpl, .int mth, .int (nI ln), .ref msc, .int mfr, .ref mdr, .int mcm, .int mop, .int mkd, .int mbg, .int mnd, .int mam, .ref mis, .ref mip, .ref msd, .ref mrg, .int mmn, .ref mou])), (msc, .inl (G.2 0, 400, .inl sc)), (mis, .inl (G.2 3, 8, .inl fz)), (msd, .inl (G.2 3, 3, .inl fs))] H locs := hW
                refine W.eq (g2 := F0 m 105 ls [.int (o_Mo_lacks_r fz (sc (((6 * (nI k)) + 4).toNatClampNeg)))]) rfl ?_
                refine lv_if_ne (tgt := 112) hx hb d_Mo_mayRun_105 rfl (fun ht17 => ?_) (fun hf18 => ?_)
                · refine lv_iconst (v := 0) hx hb d_Mo_mayRun_112 (by decide) ?_
                  refine lv_istore_n (lv' := [(1, .int 0), (0, .ref h0), (2, .int (nI k))]) hx hb d_Mo_mayRun_113 rfl hl (by decide) rfl (fun ls hl => ?_)
                  refine lv_iinc (k := 2) (v := nI (k + 1)) (lv' := [(2, .int (nI (k + 1))), (1, .int 0), (0, .ref h0)]) hx hb d_Mo_mayRun_114 hl rfl (nI_succ k).symm (by decide) rfl (fun ls hl => ?_)
                  refine lv_goto (tgt := 42) hx hb d_Mo_mayRun_117 rfl ?_
                  exact ih42 (k + 1) 0 ls H locs (by omega) (by have q := myI_1 hI hf12; rw [myG_s (by omega), if_pos (show lk sc fz k 2 = 0 from hf14), if_pos (show lk sc fz k 3 = 0 from hf16), if_neg (show ¬ lk sc fz k 4 = 0 from ht17)] at q; exact Or.inr ⟨rfl, q.symm⟩) (by omega) (lv_sub hl [2, 1, 0] rfl) hW
                · refine lv_iconst (v := 1) hx hb d_Mo_mayRun_108 (by decide) ?_
                  refine lv_goto (tgt := 113) hx hb d_Mo_mayRun_109 rfl ?_
                  refine lv_istore_n (lv' := [(1, .int 1), (0, .ref h0), (2, .int (nI k))]) hx hb d_Mo_mayRun_113 rfl hl (by decide) rfl (fun ls hl => ?_)
                  refine lv_iinc (k := 2) (v := nI (k + 1)) (lv' := [(2, .int (nI (k + 1))), (1, .int 1), (0, .ref h0)]) hx hb d_Mo_mayRun_114 hl rfl (nI_succ k).symm (by decide) rfl (fun ls hl => ?_)
                  refine lv_goto (tgt := 42) hx hb d_Mo_mayRun_117 rfl ?_
                  exact ih42 (k + 1) 1 ls H locs (by omega) (by have q := myI_1 hI hf12; rw [myG_s (by omega), if_pos (show lk sc fz k 2 = 0 from hf14), if_pos (show lk sc fz k 3 = 0 from hf16), if_pos (show lk sc fz k 4 = 0 from hf18)] at q; exact Or.inl ⟨rfl, by rw [show ln - (k + 1) = ln - k - 1 by omega]; exact q⟩) (by omega) (lv_sub hl [2, 1, 0] rfl) hW
    exact loop42 (_ + 1) 0 0 ls H locs (Nat.zero_le _) (Or.inr ⟨rfl, by unfold mMay; rw [if_pos (show (mth = 0) from ht1)]⟩) (Nat.lt_succ_self _) (lv_sub hl [2, 1, 0] rfl) hW
  · refine lv_aload_n hx hb d_Mo_mayRun_7 rfl (lv_at hl 0 rfl) ?_
    refine Wd.get hx hb hts hown hK hW 0 17 in_Mo w_fl_Mo_31 (by decide) d_Mo_mayRun_8 rfl rfl rfl ?_
    refine lv_iconst (v := 0) hx hb d_Mo_mayRun_11 (by decide) ?_
    refine Wd.zald hx hb hK hW 3 d_Mo_mayRun_12 rfl (by unfold vp_in; decide) ?_
    refine lv_if_eq (tgt := 38) hx hb d_Mo_mayRun_13 rfl (fun ht3 => ?_) (fun hf4 => ?_)
    · refine lv_iconst (v := 0) hx hb d_Mo_mayRun_38 (by decide) ?_
      refine lv_istore_n (lv' := [(1, .int 0), (0, .ref h0)]) hx hb d_Mo_mayRun_39 rfl hl (by decide) rfl (fun ls hl => ?_)
      refine lv_iconst (v := 0) hx hb d_Mo_mayRun_40 (by decide) ?_
      refine lv_istore_n (lv' := [(2, .int 0), (1, .int 0), (0, .ref h0)]) hx hb d_Mo_mayRun_41 rfl hl (by decide) rfl (fun ls hl => ?_)
      have loop42 : ∀ (u : Nat) (k : Nat) (my : Int32) (ls : Array Slot) (H : Heap) (locs : List Loc), k ≤ ln → myI sc fz ln k my (mMay mth fs sc fz ln) → (ln - k) < u → lv_has ls 3 [(0, .ref h0), (1, .int my), (2, .int (nI k))] → Wd G A s.heap [(h0, .inr (1, [.int mcd, .int mty, .ref mtx, .int mpl, .int mth, .int (nI ln), .ref msc, .int mfr, .ref mdr, .int mcm, .int mop, .int mkd, .int mbg, .int mnd, .int mam, .ref mis, .ref mip, .ref msd, .ref mrg, .int mmn, .ref mou])), (msc, .inl (G.2 0, 400, .inl sc)), (mis, .inl (G.2 3, 8, .inl fz)), (msd, .inl (G.2 3, 3, .inl fs))] H locs → W p l e rm_Mo_mayRun s m args below meth c H locs 0 0 (MQ below (Qcc G (fun v w' => v = some (.int (mMay mth fs sc fz ln)) ∧ w' = [(h0, .inr (1, [.int mcd, .int mty, .ref mtx, .int mpl, .int mth, .int (nI ln), .ref msc, .int mfr, .ref mdr, .int mcm, .int mop, .int mkd, .int mbg, .int mnd, .int mam, .ref mis, .ref mip, .ref msd, .ref mrg, .int mmn, .ref mou])), (msc, .inl (G.2 0, 400, .inl sc)), (mis, .inl (G.2 3, 8, .inl fz)), (msd, .inl (G.2 3, 3, .inl fs))]) A) args s 0 0 A) (F0 m 42 ls []) := by
        intro u
        induction u with
        | zero => intro k my ls H locs hk hI hu; exact absurd hu (Nat.not_lt_zero _)
        | succ u ih42 =>
          intro k my ls H locs hk hI hu42 hl hW
          refine lv_iload_n hx hb d_Mo_mayRun_42 rfl (lv_at hl 2 rfl) ?_
          refine lv_aload_n hx hb d_Mo_mayRun_43 rfl (lv_at hl 0 rfl) ?_
          refine Wd.get hx hb hts hown hK hW 0 5 in_Mo w_fl_Mo_140 (by decide) d_Mo_mayRun_44 rfl rfl rfl ?_
          refine lv_icmp_ge (tgt := 120) hx hb d_Mo_mayRun_47 rfl (fun ht19 => ?_) (fun hf20 => ?_)
          · have hkn : ln ≤ k := (nI_leI (a := ln) (b := k) (by omega) (by omega)).mp ht19
            refine lv_iload_n hx hb d_Mo_mayRun_120 rfl (lv_at hl 1 rfl) ?_
            exact Ct.zret hx hb hr hnl hW (by decide) (by decide) d_Mo_mayRun_121 (by exact nb01 (myI_b hI)) (by rw [myI_end hI hkn]; exact ⟨rfl, rfl⟩)
          · have hkn : k < ln := by apply Nat.lt_of_not_le; intro q; exact hf20 (nI_le q (by omega))
            refine lv_iload_n hx hb d_Mo_mayRun_50 rfl (lv_at hl 1 rfl) ?_
            refine lv_if_eq (tgt := 120) hx hb d_Mo_mayRun_51 rfl (fun ht21 => ?_) (fun hf22 => ?_)
            · refine lv_iload_n hx hb d_Mo_mayRun_120 rfl (lv_at hl 1 rfl) ?_
              exact Ct.zret hx hb hr hnl hW (by decide) (by decide) d_Mo_mayRun_121 (by exact nb01 (myI_b hI)) (by rw [myI_0 hI ht21]; exact ⟨rfl, rfl⟩)
            · refine lv_aload_n hx hb d_Mo_mayRun_54 rfl (lv_at hl 0 rfl) ?_
              refine lv_aload_n hx hb d_Mo_mayRun_55 rfl (lv_at hl 0 rfl) ?_
              refine Wd.get hx hb hts hown hK hW 0 6 in_Mo w_fl_Mo_17 (by decide) d_Mo_mayRun_56 rfl rfl rfl ?_
              refine lv_bipush (v := 6) hx hb d_Mo_mayRun_59 (by decide) ?_
              refine lv_iload_n hx hb d_Mo_mayRun_61 rfl (lv_at hl 2 rfl) ?_
              refine lv_imul hx hb d_Mo_mayRun_62 ?_
              refine lv_iconst (v := 2) hx hb d_Mo_mayRun_63 (by decide) ?_
              refine lv_iadd hx hb d_Mo_mayRun_64 ?_
              refine Wd.iald hx hb hK hW 1 d_Mo_mayRun_65 rfl (put_in (k := 2) (fr := k) (by omega) (by decide)) ?_
              refine Ct.callV (As := [.int (sc (((6 * (nI k)) + 2).toNatClampNeg))]) (rest := []) hx hb hml hown hts hK hA hl.1 hW (c_Mo_lacks l G h0 mcd mty mtx mpl mth (nI ln) msc mfr mdr mcm mop mkd mbg mnd mam mis mip msd mrg mmn mou fz (sc (((6 * (nI k)) + 2).toNatClampNeg)) (hv _)) (cwV 1 hts (good_V w_ml_Mo_143 w_im_Mo_lacks w_se_Mo_lacks w_ini_Mo w_code_Mo_lacks) rfl rfl rfl yd_Mo_lacks ⟨by decide, by decide⟩) [0, 2] (by decide) rfl (ci := 1) (r := vr_Mo) rfl rfl rfl rfl rfl (Nat.le_of_ble_eq_true rfl) d_Mo_mayRun_66 ⟨by decide, by decide⟩ (fun v w' hp => by obtain ⟨-, rfl⟩ := hp; exact Nat.le_of_ble_eq_true rfl) (fun v w' H locs hp hW => ?_)
              obtain ⟨rfl, rfl⟩ := hp
              have hW : Wd G A s.heap [(h0, .inr (1, [.int mcd, .int mty, .ref mtx, .int mpl, .int mth, .int (nI ln), .ref msc, .int mfr, .ref mdr, .int mcm, .int mop, .int mkd, .int mbg, .int mnd, .int mam, .ref mis, .ref mip, .ref msd, .ref mrg, .int mmn, .ref mou])), (msc, .inl (G.2 0, 400, .inl sc)), (mis, .inl (G.2 3, 8, .inl fz)), (msd, .inl (G.2 3, 3, .inl fs))] H locs := hW
              refine W.eq (g2 := F0 m 69 ls [.int (o_Mo_lacks_r fz (sc (((6 * (nI k)) + 2).toNatClampNeg)))]) rfl ?_
              refine lv_if_ne (tgt := 112) hx hb d_Mo_mayRun_69 rfl (fun ht23 => ?_) (fun hf24 => ?_)
              · refine lv_iconst (v := 0) hx hb d_Mo_mayRun_112 (by decide) ?_
                refine lv_istore_n (lv' := [(1, .int 0), (0, .ref h0), (2, .int (nI k))]) hx hb d_Mo_mayRun_113 rfl hl (by decide) rfl (fun ls hl => ?_)
                refine lv_iinc (k := 2) (v := nI (k + 1)) (lv' := [(2, .int (nI (k + 1))), (1, .int 0), (0, .ref h0)]) hx hb d_Mo_mayRun_114 hl rfl (nI_succ k).symm (by decide) rfl (fun ls hl => ?_)
                refine lv_goto (tgt := 42) hx hb d_Mo_mayRun_117 rfl ?_
                exact ih42 (k + 1) 0 ls H locs (by omega) (by have q := myI_1 hI hf22; rw [myG_s (by omega), if_neg (show ¬ lk sc fz k 2 = 0 from ht23)] at q; exact Or.inr ⟨rfl, q.symm⟩) (by omega) (lv_sub hl [2, 1, 0] rfl) hW
              · refine lv_aload_n hx hb d_Mo_mayRun_72 rfl (lv_at hl 0 rfl) ?_
                refine lv_aload_n hx hb d_Mo_mayRun_73 rfl (lv_at hl 0 rfl) ?_
                refine Wd.get hx hb hts hown hK hW 0 6 in_Mo w_fl_Mo_17 (by decide) d_Mo_mayRun_74 rfl rfl rfl ?_
                refine lv_bipush (v := 6) hx hb d_Mo_mayRun_77 (by decide) ?_
                refine lv_iload_n hx hb d_Mo_mayRun_79 rfl (lv_at hl 2 rfl) ?_
                refine lv_imul hx hb d_Mo_mayRun_80 ?_
                refine lv_iconst (v := 3) hx hb d_Mo_mayRun_81 (by decide) ?_
                refine lv_iadd hx hb d_Mo_mayRun_82 ?_
                refine Wd.iald hx hb hK hW 1 d_Mo_mayRun_83 rfl (put_in (k := 3) (fr := k) (by omega) (by decide)) ?_
                refine Ct.callV (As := [.int (sc (((6 * (nI k)) + 3).toNatClampNeg))]) (rest := []) hx hb hml hown hts hK hA hl.1 hW (c_Mo_lacks l G h0 mcd mty mtx mpl mth (nI ln) msc mfr mdr mcm mop mkd mbg mnd mam mis mip msd mrg mmn mou fz (sc (((6 * (nI k)) + 3).toNatClampNeg)) (hv _)) (cwV 1 hts (good_V w_ml_Mo_143 w_im_Mo_lacks w_se_Mo_lacks w_ini_Mo w_code_Mo_lacks) rfl rfl rfl yd_Mo_lacks ⟨by decide, by decide⟩) [0, 2] (by decide) rfl (ci := 1) (r := vr_Mo) rfl rfl rfl rfl rfl (Nat.le_of_ble_eq_true rfl) d_Mo_mayRun_84 ⟨by decide, by decide⟩ (fun v w' hp => by obtain ⟨-, rfl⟩ := hp; exact Nat.le_of_ble_eq_true rfl) (fun v w' H locs hp hW => ?_)
                obtain ⟨rfl, rfl⟩ := hp
                have hW : Wd G A s.heap [(h0, .inr (1, [.int mcd, .int mty, .ref mtx, .int mpl, .int mth, .int (nI ln), .ref msc, .int mfr, .ref mdr, .int mcm, .int mop, .int mkd, .int mbg, .int mnd, .int mam, .ref mis, .ref mip, .ref msd, .ref mrg, .int mmn, .ref mou])), (msc, .inl (G.2 0, 400, .inl sc)), (mis, .inl (G.2 3, 8, .inl fz)), (msd, .inl (G.2 3, 3, .inl fs))] H locs := hW
                refine W.eq (g2 := F0 m 87 ls [.int (o_Mo_lacks_r fz (sc (((6 * (nI k)) + 3).toNatClampNeg)))]) rfl ?_
                refine lv_if_ne (tgt := 112) hx hb d_Mo_mayRun_87 rfl (fun ht25 => ?_) (fun hf26 => ?_)
                · refine lv_iconst (v := 0) hx hb d_Mo_mayRun_112 (by decide) ?_
                  refine lv_istore_n (lv' := [(1, .int 0), (0, .ref h0), (2, .int (nI k))]) hx hb d_Mo_mayRun_113 rfl hl (by decide) rfl (fun ls hl => ?_)
                  refine lv_iinc (k := 2) (v := nI (k + 1)) (lv' := [(2, .int (nI (k + 1))), (1, .int 0), (0, .ref h0)]) hx hb d_Mo_mayRun_114 hl rfl (nI_succ k).symm (by decide) rfl (fun ls hl => ?_)
                  refine lv_goto (tgt := 42) hx hb d_Mo_mayRun_117 rfl ?_
                  exact ih42 (k + 1) 0 ls H locs (by omega) (by have q := myI_1 hI hf22; rw [myG_s (by omega), if_pos (show lk sc fz k 2 = 0 from hf24), if_neg (show ¬ lk sc fz k 3 = 0 from ht25)] at q; exact Or.inr ⟨rfl, q.symm⟩) (by omega) (lv_sub hl [2, 1, 0] rfl) hW
                · refine lv_aload_n hx hb d_Mo_mayRun_90 rfl (lv_at hl 0 rfl) ?_
                  refine lv_aload_n hx hb d_Mo_mayRun_91 rfl (lv_at hl 0 rfl) ?_
                  refine Wd.get hx hb hts hown hK hW 0 6 in_Mo w_fl_Mo_17 (by decide) d_Mo_mayRun_92 rfl rfl rfl ?_
                  refine lv_bipush (v := 6) hx hb d_Mo_mayRun_95 (by decide) ?_
                  refine lv_iload_n hx hb d_Mo_mayRun_97 rfl (lv_at hl 2 rfl) ?_
                  refine lv_imul hx hb d_Mo_mayRun_98 ?_
                  refine lv_iconst (v := 4) hx hb d_Mo_mayRun_99 (by decide) ?_
                  refine lv_iadd hx hb d_Mo_mayRun_100 ?_
                  refine Wd.iald hx hb hK hW 1 d_Mo_mayRun_101 rfl (put_in (k := 4) (fr := k) (by omega) (by decide)) ?_
                  refine Ct.callV (As := [.int (sc (((6 * (nI k)) + 4).toNatClampNeg))]) (rest := []) hx hb hml hown hts hK hA hl.1 hW (c_Mo_lacks l G h0 mcd mty mtx mpl mth (nI ln) msc mfr mdr mcm mop mkd mbg mnd mam mis mip msd mrg mmn mou fz (sc (((6 * (nI k)) + 4).toNatClampNeg)) (hv _)) (cwV 1 hts (good_V w_ml_Mo_143 w_im_Mo_lacks w_se_Mo_lacks w_ini_Mo w_code_Mo_lacks) rfl rfl rfl yd_Mo_lacks ⟨by decide, by decide⟩) [0, 2] (by decide) rfl (ci := 1) (r := vr_Mo) rfl rfl rfl rfl rfl (Nat.le_of_ble_eq_true rfl) d_Mo_mayRun_102 ⟨by decide, by decide⟩ (fun v w' hp => by obtain ⟨-, rfl⟩ := hp; exact Nat.le_of_ble_eq_true rfl) (fun v w' H locs hp hW => ?_)
                  obtain ⟨rfl, rfl⟩ := hp
                  have hW : Wd G A s.heap [(h0, .inr (1, [.int mcd, .int mty, .ref mtx, .int mpl, .int mth, .int (nI ln), .ref msc, .int mfr, .ref mdr, .int mcm, .int mop, .int mkd, .int mbg, .int mnd, .int mam, .ref mis, .ref mip, .ref msd, .ref mrg, .int mmn, .ref mou])), (msc, .inl (G.2 0, 400, .inl sc)), (mis, .inl (G.2 3, 8, .inl fz)), (msd, .inl (G.2 3, 3, .inl fs))] H locs := hW
                  refine W.eq (g2 := F0 m 105 ls [.int (o_Mo_lacks_r fz (sc (((6 * (nI k)) + 4).toNatClampNeg)))]) rfl ?_
                  refine lv_if_ne (tgt := 112) hx hb d_Mo_mayRun_105 rfl (fun ht27 => ?_) (fun hf28 => ?_)
                  · refine lv_iconst (v := 0) hx hb d_Mo_mayRun_112 (by decide) ?_
                    refine lv_istore_n (lv' := [(1, .int 0), (0, .ref h0), (2, .int (nI k))]) hx hb d_Mo_mayRun_113 rfl hl (by decide) rfl (fun ls hl => ?_)
                    refine lv_iinc (k := 2) (v := nI (k + 1)) (lv' := [(2, .int (nI (k + 1))), (1, .int 0), (0, .ref h0)]) hx hb d_Mo_mayRun_114 hl rfl (nI_succ k).symm (by decide) rfl (fun ls hl => ?_)
                    refine lv_goto (tgt := 42) hx hb d_Mo_mayRun_117 rfl ?_
                    exact ih42 (k + 1) 0 ls H locs (by omega) (by have q := myI_1 hI hf22; rw [myG_s (by omega), if_pos (show lk sc fz k 2 = 0 from hf24), if_pos (show lk sc fz k 3 = 0 from hf26), if_neg (show ¬ lk sc fz k 4 = 0 from ht27)] at q; exact Or.inr ⟨rfl, q.symm⟩) (by omega) (lv_sub hl [2, 1, 0] rfl) hW
                  · refine lv_iconst (v := 1) hx hb d_Mo_mayRun_108 (by decide) ?_
                    refine lv_goto (tgt := 113) hx hb d_Mo_mayRun_109 rfl ?_
                    refine lv_istore_n (lv' := [(1, .int 1), (0, .ref h0), (2, .int (nI k))]) hx hb d_Mo_mayRun_113 rfl hl (by decide) rfl (fun ls hl => ?_)
                    refine lv_iinc (k := 2) (v := nI (k + 1)) (lv' := [(2, .int (nI (k + 1))), (1, .int 1), (0, .ref h0)]) hx hb d_Mo_mayRun_114 hl rfl (nI_succ k).symm (by decide) rfl (fun ls hl => ?_)
                    refine lv_goto (tgt := 42) hx hb d_Mo_mayRun_117 rfl ?_
                    exact ih42 (k + 1) 1 ls H locs (by omega) (by have q := myI_1 hI hf22; rw [myG_s (by omega), if_pos (show lk sc fz k 2 = 0 from hf24), if_pos (show lk sc fz k 3 = 0 from hf26), if_pos (show lk sc fz k 4 = 0 from hf28)] at q; exact Or.inl ⟨rfl, by rw [show ln - (k + 1) = ln - k - 1 by omega]; exact q⟩) (by omega) (lv_sub hl [2, 1, 0] rfl) hW
      exact loop42 (_ + 1) 0 0 ls H locs (Nat.zero_le _) (Or.inr ⟨rfl, by unfold mMay; rw [if_neg (show ¬ (mth = 0) from hf2), if_pos (show ((fs 0) = 0) from ht3)]⟩) (Nat.lt_succ_self _) (lv_sub hl [2, 1, 0] rfl) hW
    · refine lv_aload_n hx hb d_Mo_mayRun_16 rfl (lv_at hl 0 rfl) ?_
      refine Wd.get hx hb hts hown hK hW 0 17 in_Mo w_fl_Mo_31 (by decide) d_Mo_mayRun_17 rfl rfl rfl ?_
      refine lv_iconst (v := 1) hx hb d_Mo_mayRun_20 (by decide) ?_
      refine Wd.zald hx hb hK hW 3 d_Mo_mayRun_21 rfl (by unfold vp_in; decide) ?_
      refine lv_if_eq (tgt := 38) hx hb d_Mo_mayRun_22 rfl (fun ht5 => ?_) (fun hf6 => ?_)
      · refine lv_iconst (v := 0) hx hb d_Mo_mayRun_38 (by decide) ?_
        refine lv_istore_n (lv' := [(1, .int 0), (0, .ref h0)]) hx hb d_Mo_mayRun_39 rfl hl (by decide) rfl (fun ls hl => ?_)
        refine lv_iconst (v := 0) hx hb d_Mo_mayRun_40 (by decide) ?_
        refine lv_istore_n (lv' := [(2, .int 0), (1, .int 0), (0, .ref h0)]) hx hb d_Mo_mayRun_41 rfl hl (by decide) rfl (fun ls hl => ?_)
        have loop42 : ∀ (u : Nat) (k : Nat) (my : Int32) (ls : Array Slot) (H : Heap) (locs : List Loc), k ≤ ln → myI sc fz ln k my (mMay mth fs sc fz ln) → (ln - k) < u → lv_has ls 3 [(0, .ref h0), (1, .int my), (2, .int (nI k))] → Wd G A s.heap [(h0, .inr (1, [.int mcd, .int mty, .ref mtx, .int mpl, .int mth, .int (nI ln), .ref msc, .int mfr, .ref mdr, .int mcm, .int mop, .int mkd, .int mbg, .int mnd, .int mam, .ref mis, .ref mip, .ref msd, .ref mrg, .int mmn, .ref mou])), (msc, .inl (G.2 0, 400, .inl sc)), (mis, .inl (G.2 3, 8, .inl fz)), (msd, .inl (G.2 3, 3, .inl fs))] H locs → W p l e rm_Mo_mayRun s m args below meth c H locs 0 0 (MQ below (Qcc G (fun v w' => v = some (.int (mMay mth fs sc fz ln)) ∧ w' = [(h0, .inr (1, [.int mcd, .int mty, .ref mtx, .int mpl, .int mth, .int (nI ln), .ref msc, .int mfr, .ref mdr, .int mcm, .int mop, .int mkd, .int mbg, .int mnd, .int mam, .ref mis, .ref mip, .ref msd, .ref mrg, .int mmn, .ref mou])), (msc, .inl (G.2 0, 400, .inl sc)), (mis, .inl (G.2 3, 8, .inl fz)), (msd, .inl (G.2 3, 3, .inl fs))]) A) args s 0 0 A) (F0 m 42 ls []) := by
          intro u
          induction u with
          | zero => intro k my ls H locs hk hI hu; exact absurd hu (Nat.not_lt_zero _)
          | succ u ih42 =>
            intro k my ls H locs hk hI hu42 hl hW
            refine lv_iload_n hx hb d_Mo_mayRun_42 rfl (lv_at hl 2 rfl) ?_
            refine lv_aload_n hx hb d_Mo_mayRun_43 rfl (lv_at hl 0 rfl) ?_
            refine Wd.get hx hb hts hown hK hW 0 5 in_Mo w_fl_Mo_140 (by decide) d_Mo_mayRun_44 rfl rfl rfl ?_
            refine lv_icmp_ge (tgt := 120) hx hb d_Mo_mayRun_47 rfl (fun ht29 => ?_) (fun hf30 => ?_)
            · have hkn : ln ≤ k := (nI_leI (a := ln) (b := k) (by omega) (by omega)).mp ht29
              refine lv_iload_n hx hb d_Mo_mayRun_120 rfl (lv_at hl 1 rfl) ?_
              exact Ct.zret hx hb hr hnl hW (by decide) (by decide) d_Mo_mayRun_121 (by exact nb01 (myI_b hI)) (by rw [myI_end hI hkn]; exact ⟨rfl, rfl⟩)
            · have hkn : k < ln := by apply Nat.lt_of_not_le; intro q; exact hf30 (nI_le q (by omega))
              refine lv_iload_n hx hb d_Mo_mayRun_50 rfl (lv_at hl 1 rfl) ?_
              refine lv_if_eq (tgt := 120) hx hb d_Mo_mayRun_51 rfl (fun ht31 => ?_) (fun hf32 => ?_)
              · refine lv_iload_n hx hb d_Mo_mayRun_120 rfl (lv_at hl 1 rfl) ?_
                exact Ct.zret hx hb hr hnl hW (by decide) (by decide) d_Mo_mayRun_121 (by exact nb01 (myI_b hI)) (by rw [myI_0 hI ht31]; exact ⟨rfl, rfl⟩)
              · refine lv_aload_n hx hb d_Mo_mayRun_54 rfl (lv_at hl 0 rfl) ?_
                refine lv_aload_n hx hb d_Mo_mayRun_55 rfl (lv_at hl 0 rfl) ?_
                refine Wd.get hx hb hts hown hK hW 0 6 in_Mo w_fl_Mo_17 (by decide) d_Mo_mayRun_56 rfl rfl rfl ?_
                refine lv_bipush (v := 6) hx hb d_Mo_mayRun_59 (by decide) ?_
                refine lv_iload_n hx hb d_Mo_mayRun_61 rfl (lv_at hl 2 rfl) ?_
                refine lv_imul hx hb d_Mo_mayRun_62 ?_
                refine lv_iconst (v := 2) hx hb d_Mo_mayRun_63 (by decide) ?_
                refine lv_iadd hx hb d_Mo_mayRun_64 ?_
                refine Wd.iald hx hb hK hW 1 d_Mo_mayRun_65 rfl (put_in (k := 2) (fr := k) (by omega) (by decide)) ?_
                refine Ct.callV (As := [.int (sc (((6 * (nI k)) + 2).toNatClampNeg))]) (rest := []) hx hb hml hown hts hK hA hl.1 hW (c_Mo_lacks l G h0 mcd mty mtx mpl mth (nI ln) msc mfr mdr mcm mop mkd mbg mnd mam mis mip msd mrg mmn mou fz (sc (((6 * (nI k)) + 2).toNatClampNeg)) (hv _)) (cwV 1 hts (good_V w_ml_Mo_143 w_im_Mo_lacks w_se_Mo_lacks w_ini_Mo w_code_Mo_lacks) rfl rfl rfl yd_Mo_lacks ⟨by decide, by decide⟩) [0, 2] (by decide) rfl (ci := 1) (r := vr_Mo) rfl rfl rfl rfl rfl (Nat.le_of_ble_eq_true rfl) d_Mo_mayRun_66 ⟨by decide, by decide⟩ (fun v w' hp => by obtain ⟨-, rfl⟩ := hp; exact Nat.le_of_ble_eq_true rfl) (fun v w' H locs hp hW => ?_)
                obtain ⟨rfl, rfl⟩ := hp
                have hW : Wd G A s.heap [(h0, .inr (1, [.int mcd, .int mty, .ref mtx, .int mpl, .int mth, .int (nI ln), .ref msc, .int mfr, .ref mdr, .int mcm, .int mop, .int mkd, .int mbg, .int mnd, .int mam, .ref mis, .ref mip, .ref msd, .ref mrg, .int mmn, .ref mou])), (msc, .inl (G.2 0, 400, .inl sc)), (mis, .inl (G.2 3, 8, .inl fz)), (msd, .inl (G.2 3, 3, .inl fs))] H locs := hW
                refine W.eq (g2 := F0 m 69 ls [.int (o_Mo_lacks_r fz (sc (((6 * (nI k)) + 2).toNatClampNeg)))]) rfl ?_
                refine lv_if_ne (tgt := 112) hx hb d_Mo_mayRun_69 rfl (fun ht33 => ?_) (fun hf34 => ?_)
                · refine lv_iconst (v := 0) hx hb d_Mo_mayRun_112 (by decide) ?_
                  refine lv_istore_n (lv' := [(1, .int 0), (0, .ref h0), (2, .int (nI k))]) hx hb d_Mo_mayRun_113 rfl hl (by decide) rfl (fun ls hl => ?_)
                  refine lv_iinc (k := 2) (v := nI (k + 1)) (lv' := [(2, .int (nI (k + 1))), (1, .int 0), (0, .ref h0)]) hx hb d_Mo_mayRun_114 hl rfl (nI_succ k).symm (by decide) rfl (fun ls hl => ?_)
                  refine lv_goto (tgt := 42) hx hb d_Mo_mayRun_117 rfl ?_
                  exact ih42 (k + 1) 0 ls H locs (by omega) (by have q := myI_1 hI hf32; rw [myG_s (by omega), if_neg (show ¬ lk sc fz k 2 = 0 from ht33)] at q; exact Or.inr ⟨rfl, q.symm⟩) (by omega) (lv_sub hl [2, 1, 0] rfl) hW
                · refine lv_aload_n hx hb d_Mo_mayRun_72 rfl (lv_at hl 0 rfl) ?_
                  refine lv_aload_n hx hb d_Mo_mayRun_73 rfl (lv_at hl 0 rfl) ?_
                  refine Wd.get hx hb hts hown hK hW 0 6 in_Mo w_fl_Mo_17 (by decide) d_Mo_mayRun_74 rfl rfl rfl ?_
                  refine lv_bipush (v := 6) hx hb d_Mo_mayRun_77 (by decide) ?_
                  refine lv_iload_n hx hb d_Mo_mayRun_79 rfl (lv_at hl 2 rfl) ?_
                  refine lv_imul hx hb d_Mo_mayRun_80 ?_
                  refine lv_iconst (v := 3) hx hb d_Mo_mayRun_81 (by decide) ?_
                  refine lv_iadd hx hb d_Mo_mayRun_82 ?_
                  refine Wd.iald hx hb hK hW 1 d_Mo_mayRun_83 rfl (put_in (k := 3) (fr := k) (by omega) (by decide)) ?_
                  refine Ct.callV (As := [.int (sc (((6 * (nI k)) + 3).toNatClampNeg))]) (rest := []) hx hb hml hown hts hK hA hl.1 hW (c_Mo_lacks l G h0 mcd mty mtx mpl mth (nI ln) msc mfr mdr mcm mop mkd mbg mnd mam mis mip msd mrg mmn mou fz (sc (((6 * (nI k)) + 3).toNatClampNeg)) (hv _)) (cwV 1 hts (good_V w_ml_Mo_143 w_im_Mo_lacks w_se_Mo_lacks w_ini_Mo w_code_Mo_lacks) rfl rfl rfl yd_Mo_lacks ⟨by decide, by decide⟩) [0, 2] (by decide) rfl (ci := 1) (r := vr_Mo) rfl rfl rfl rfl rfl (Nat.le_of_ble_eq_true rfl) d_Mo_mayRun_84 ⟨by decide, by decide⟩ (fun v w' hp => by obtain ⟨-, rfl⟩ := hp; exact Nat.le_of_ble_eq_true rfl) (fun v w' H locs hp hW => ?_)
                  obtain ⟨rfl, rfl⟩ := hp
                  have hW : Wd G A s.heap [(h0, .inr (1, [.int mcd, .int mty, .ref mtx, .int mpl, .int mth, .int (nI ln), .ref msc, .int mfr, .ref mdr, .int mcm, .int mop, .int mkd, .int mbg, .int mnd, .int mam, .ref mis, .ref mip, .ref msd, .ref mrg, .int mmn, .ref mou])), (msc, .inl (G.2 0, 400, .inl sc)), (mis, .inl (G.2 3, 8, .inl fz)), (msd, .inl (G.2 3, 3, .inl fs))] H locs := hW
                  refine W.eq (g2 := F0 m 87 ls [.int (o_Mo_lacks_r fz (sc (((6 * (nI k)) + 3).toNatClampNeg)))]) rfl ?_
                  refine lv_if_ne (tgt := 112) hx hb d_Mo_mayRun_87 rfl (fun ht35 => ?_) (fun hf36 => ?_)
                  · refine lv_iconst (v := 0) hx hb d_Mo_mayRun_112 (by decide) ?_
                    refine lv_istore_n (lv' := [(1, .int 0), (0, .ref h0), (2, .int (nI k))]) hx hb d_Mo_mayRun_113 rfl hl (by decide) rfl (fun ls hl => ?_)
                    refine lv_iinc (k := 2) (v := nI (k + 1)) (lv' := [(2, .int (nI (k + 1))), (1, .int 0), (0, .ref h0)]) hx hb d_Mo_mayRun_114 hl rfl (nI_succ k).symm (by decide) rfl (fun ls hl => ?_)
                    refine lv_goto (tgt := 42) hx hb d_Mo_mayRun_117 rfl ?_
                    exact ih42 (k + 1) 0 ls H locs (by omega) (by have q := myI_1 hI hf32; rw [myG_s (by omega), if_pos (show lk sc fz k 2 = 0 from hf34), if_neg (show ¬ lk sc fz k 3 = 0 from ht35)] at q; exact Or.inr ⟨rfl, q.symm⟩) (by omega) (lv_sub hl [2, 1, 0] rfl) hW
                  · refine lv_aload_n hx hb d_Mo_mayRun_90 rfl (lv_at hl 0 rfl) ?_
                    refine lv_aload_n hx hb d_Mo_mayRun_91 rfl (lv_at hl 0 rfl) ?_
                    refine Wd.get hx hb hts hown hK hW 0 6 in_Mo w_fl_Mo_17 (by decide) d_Mo_mayRun_92 rfl rfl rfl ?_
                    refine lv_bipush (v := 6) hx hb d_Mo_mayRun_95 (by decide) ?_
                    refine lv_iload_n hx hb d_Mo_mayRun_97 rfl (lv_at hl 2 rfl) ?_
                    refine lv_imul hx hb d_Mo_mayRun_98 ?_
                    refine lv_iconst (v := 4) hx hb d_Mo_mayRun_99 (by decide) ?_
                    refine lv_iadd hx hb d_Mo_mayRun_100 ?_
                    refine Wd.iald hx hb hK hW 1 d_Mo_mayRun_101 rfl (put_in (k := 4) (fr := k) (by omega) (by decide)) ?_
                    refine Ct.callV (As := [.int (sc (((6 * (nI k)) + 4).toNatClampNeg))]) (rest := []) hx hb hml hown hts hK hA hl.1 hW (c_Mo_lacks l G h0 mcd mty mtx mpl mth (nI ln) msc mfr mdr mcm mop mkd mbg mnd mam mis mip msd mrg mmn mou fz (sc (((6 * (nI k)) + 4).toNatClampNeg)) (hv _)) (cwV 1 hts (good_V w_ml_Mo_143 w_im_Mo_lacks w_se_Mo_lacks w_ini_Mo w_code_Mo_lacks) rfl rfl rfl yd_Mo_lacks ⟨by decide, by decide⟩) [0, 2] (by decide) rfl (ci := 1) (r := vr_Mo) rfl rfl rfl rfl rfl (Nat.le_of_ble_eq_true rfl) d_Mo_mayRun_102 ⟨by decide, by decide⟩ (fun v w' hp => by obtain ⟨-, rfl⟩ := hp; exact Nat.le_of_ble_eq_true rfl) (fun v w' H locs hp hW => ?_)
                    obtain ⟨rfl, rfl⟩ := hp
                    have hW : Wd G A s.heap [(h0, .inr (1, [.int mcd, .int mty, .ref mtx, .int mpl, .int mth, .int (nI ln), .ref msc, .int mfr, .ref mdr, .int mcm, .int mop, .int mkd, .int mbg, .int mnd, .int mam, .ref mis, .ref mip, .ref msd, .ref mrg, .int mmn, .ref mou])), (msc, .inl (G.2 0, 400, .inl sc)), (mis, .inl (G.2 3, 8, .inl fz)), (msd, .inl (G.2 3, 3, .inl fs))] H locs := hW
                    refine W.eq (g2 := F0 m 105 ls [.int (o_Mo_lacks_r fz (sc (((6 * (nI k)) + 4).toNatClampNeg)))]) rfl ?_
                    refine lv_if_ne (tgt := 112) hx hb d_Mo_mayRun_105 rfl (fun ht37 => ?_) (fun hf38 => ?_)
                    · refine lv_iconst (v := 0) hx hb d_Mo_mayRun_112 (by decide) ?_
                      refine lv_istore_n (lv' := [(1, .int 0), (0, .ref h0), (2, .int (nI k))]) hx hb d_Mo_mayRun_113 rfl hl (by decide) rfl (fun ls hl => ?_)
                      refine lv_iinc (k := 2) (v := nI (k + 1)) (lv' := [(2, .int (nI (k + 1))), (1, .int 0), (0, .ref h0)]) hx hb d_Mo_mayRun_114 hl rfl (nI_succ k).symm (by decide) rfl (fun ls hl => ?_)
                      refine lv_goto (tgt := 42) hx hb d_Mo_mayRun_117 rfl ?_
                      exact ih42 (k + 1) 0 ls H locs (by omega) (by have q := myI_1 hI hf32; rw [myG_s (by omega), if_pos (show lk sc fz k 2 = 0 from hf34), if_pos (show lk sc fz k 3 = 0 from hf36), if_neg (show ¬ lk sc fz k 4 = 0 from ht37)] at q; exact Or.inr ⟨rfl, q.symm⟩) (by omega) (lv_sub hl [2, 1, 0] rfl) hW
                    · refine lv_iconst (v := 1) hx hb d_Mo_mayRun_108 (by decide) ?_
                      refine lv_goto (tgt := 113) hx hb d_Mo_mayRun_109 rfl ?_
                      refine lv_istore_n (lv' := [(1, .int 1), (0, .ref h0), (2, .int (nI k))]) hx hb d_Mo_mayRun_113 rfl hl (by decide) rfl (fun ls hl => ?_)
                      refine lv_iinc (k := 2) (v := nI (k + 1)) (lv' := [(2, .int (nI (k + 1))), (1, .int 1), (0, .ref h0)]) hx hb d_Mo_mayRun_114 hl rfl (nI_succ k).symm (by decide) rfl (fun ls hl => ?_)
                      refine lv_goto (tgt := 42) hx hb d_Mo_mayRun_117 rfl ?_
                      exact ih42 (k + 1) 1 ls H locs (by omega) (by have q := myI_1 hI hf32; rw [myG_s (by omega), if_pos (show lk sc fz k 2 = 0 from hf34), if_pos (show lk sc fz k 3 = 0 from hf36), if_pos (show lk sc fz k 4 = 0 from hf38)] at q; exact Or.inl ⟨rfl, by rw [show ln - (k + 1) = ln - k - 1 by omega]; exact q⟩) (by omega) (lv_sub hl [2, 1, 0] rfl) hW
        exact loop42 (_ + 1) 0 0 ls H locs (Nat.zero_le _) (Or.inr ⟨rfl, by unfold mMay; rw [if_neg (show ¬ (mth = 0) from hf2), if_neg (show ¬ ((fs 0) = 0) from hf4), if_pos (show ((fs 1) = 0) from ht5)]⟩) (Nat.lt_succ_self _) (lv_sub hl [2, 1, 0] rfl) hW
      · refine lv_aload_n hx hb d_Mo_mayRun_25 rfl (lv_at hl 0 rfl) ?_
        refine Wd.get hx hb hts hown hK hW 0 17 in_Mo w_fl_Mo_31 (by decide) d_Mo_mayRun_26 rfl rfl rfl ?_
        refine lv_iconst (v := 2) hx hb d_Mo_mayRun_29 (by decide) ?_
        refine Wd.zald hx hb hK hW 3 d_Mo_mayRun_30 rfl (by unfold vp_in; decide) ?_
        refine lv_if_eq (tgt := 38) hx hb d_Mo_mayRun_31 rfl (fun ht7 => ?_) (fun hf8 => ?_)
        · refine lv_iconst (v := 0) hx hb d_Mo_mayRun_38 (by decide) ?_
          refine lv_istore_n (lv' := [(1, .int 0), (0, .ref h0)]) hx hb d_Mo_mayRun_39 rfl hl (by decide) rfl (fun ls hl => ?_)
          refine lv_iconst (v := 0) hx hb d_Mo_mayRun_40 (by decide) ?_
          refine lv_istore_n (lv' := [(2, .int 0), (1, .int 0), (0, .ref h0)]) hx hb d_Mo_mayRun_41 rfl hl (by decide) rfl (fun ls hl => ?_)
          have loop42 : ∀ (u : Nat) (k : Nat) (my : Int32) (ls : Array Slot) (H : Heap) (locs : List Loc), k ≤ ln → myI sc fz ln k my (mMay mth fs sc fz ln) → (ln - k) < u → lv_has ls 3 [(0, .ref h0), (1, .int my), (2, .int (nI k))] → Wd G A s.heap [(h0, .inr (1, [.int mcd, .int mty, .ref mtx, .int mpl, .int mth, .int (nI ln), .ref msc, .int mfr, .ref mdr, .int mcm, .int mop, .int mkd, .int mbg, .int mnd, .int mam, .ref mis, .ref mip, .ref msd, .ref mrg, .int mmn, .ref mou])), (msc, .inl (G.2 0, 400, .inl sc)), (mis, .inl (G.2 3, 8, .inl fz)), (msd, .inl (G.2 3, 3, .inl fs))] H locs → W p l e rm_Mo_mayRun s m args below meth c H locs 0 0 (MQ below (Qcc G (fun v w' => v = some (.int (mMay mth fs sc fz ln)) ∧ w' = [(h0, .inr (1, [.int mcd, .int mty, .ref mtx, .int mpl, .int mth, .int (nI ln), .ref msc, .int mfr, .ref mdr, .int mcm, .int mop, .int mkd, .int mbg, .int mnd, .int mam, .ref mis, .ref mip, .ref msd, .ref mrg, .int mmn, .ref mou])), (msc, .inl (G.2 0, 400, .inl sc)), (mis, .inl (G.2 3, 8, .inl fz)), (msd, .inl (G.2 3, 3, .inl fs))]) A) args s 0 0 A) (F0 m 42 ls []) := by
            intro u
            induction u with
            | zero => intro k my ls H locs hk hI hu; exact absurd hu (Nat.not_lt_zero _)
            | succ u ih42 =>
              intro k my ls H locs hk hI hu42 hl hW
              refine lv_iload_n hx hb d_Mo_mayRun_42 rfl (lv_at hl 2 rfl) ?_
              refine lv_aload_n hx hb d_Mo_mayRun_43 rfl (lv_at hl 0 rfl) ?_
              refine Wd.get hx hb hts hown hK hW 0 5 in_Mo w_fl_Mo_140 (by decide) d_Mo_mayRun_44 rfl rfl rfl ?_
              refine lv_icmp_ge (tgt := 120) hx hb d_Mo_mayRun_47 rfl (fun ht39 => ?_) (fun hf40 => ?_)
              · have hkn : ln ≤ k := (nI_leI (a := ln) (b := k) (by omega) (by omega)).mp ht39
                refine lv_iload_n hx hb d_Mo_mayRun_120 rfl (lv_at hl 1 rfl) ?_
                exact Ct.zret hx hb hr hnl hW (by decide) (by decide) d_Mo_mayRun_121 (by exact nb01 (myI_b hI)) (by rw [myI_end hI hkn]; exact ⟨rfl, rfl⟩)
              · have hkn : k < ln := by apply Nat.lt_of_not_le; intro q; exact hf40 (nI_le q (by omega))
                refine lv_iload_n hx hb d_Mo_mayRun_50 rfl (lv_at hl 1 rfl) ?_
                refine lv_if_eq (tgt := 120) hx hb d_Mo_mayRun_51 rfl (fun ht41 => ?_) (fun hf42 => ?_)
                · refine lv_iload_n hx hb d_Mo_mayRun_120 rfl (lv_at hl 1 rfl) ?_
                  exact Ct.zret hx hb hr hnl hW (by decide) (by decide) d_Mo_mayRun_121 (by exact nb01 (myI_b hI)) (by rw [myI_0 hI ht41]; exact ⟨rfl, rfl⟩)
                · refine lv_aload_n hx hb d_Mo_mayRun_54 rfl (lv_at hl 0 rfl) ?_
                  refine lv_aload_n hx hb d_Mo_mayRun_55 rfl (lv_at hl 0 rfl) ?_
                  refine Wd.get hx hb hts hown hK hW 0 6 in_Mo w_fl_Mo_17 (by decide) d_Mo_mayRun_56 rfl rfl rfl ?_
                  refine lv_bipush (v := 6) hx hb d_Mo_mayRun_59 (by decide) ?_
                  refine lv_iload_n hx hb d_Mo_mayRun_61 rfl (lv_at hl 2 rfl) ?_
                  refine lv_imul hx hb d_Mo_mayRun_62 ?_
                  refine lv_iconst (v := 2) hx hb d_Mo_mayRun_63 (by decide) ?_
                  refine lv_iadd hx hb d_Mo_mayRun_64 ?_
                  refine Wd.iald hx hb hK hW 1 d_Mo_mayRun_65 rfl (put_in (k := 2) (fr := k) (by omega) (by decide)) ?_
                  refine Ct.callV (As := [.int (sc (((6 * (nI k)) + 2).toNatClampNeg))]) (rest := []) hx hb hml hown hts hK hA hl.1 hW (c_Mo_lacks l G h0 mcd mty mtx mpl mth (nI ln) msc mfr mdr mcm mop mkd mbg mnd mam mis mip msd mrg mmn mou fz (sc (((6 * (nI k)) + 2).toNatClampNeg)) (hv _)) (cwV 1 hts (good_V w_ml_Mo_143 w_im_Mo_lacks w_se_Mo_lacks w_ini_Mo w_code_Mo_lacks) rfl rfl rfl yd_Mo_lacks ⟨by decide, by decide⟩) [0, 2] (by decide) rfl (ci := 1) (r := vr_Mo) rfl rfl rfl rfl rfl (Nat.le_of_ble_eq_true rfl) d_Mo_mayRun_66 ⟨by decide, by decide⟩ (fun v w' hp => by obtain ⟨-, rfl⟩ := hp; exact Nat.le_of_ble_eq_true rfl) (fun v w' H locs hp hW => ?_)
                  obtain ⟨rfl, rfl⟩ := hp
                  have hW : Wd G A s.heap [(h0, .inr (1, [.int mcd, .int mty, .ref mtx, .int mpl, .int mth, .int (nI ln), .ref msc, .int mfr, .ref mdr, .int mcm, .int mop, .int mkd, .int mbg, .int mnd, .int mam, .ref mis, .ref mip, .ref msd, .ref mrg, .int mmn, .ref mou])), (msc, .inl (G.2 0, 400, .inl sc)), (mis, .inl (G.2 3, 8, .inl fz)), (msd, .inl (G.2 3, 3, .inl fs))] H locs := hW
                  refine W.eq (g2 := F0 m 69 ls [.int (o_Mo_lacks_r fz (sc (((6 * (nI k)) + 2).toNatClampNeg)))]) rfl ?_
                  refine lv_if_ne (tgt := 112) hx hb d_Mo_mayRun_69 rfl (fun ht43 => ?_) (fun hf44 => ?_)
                  · refine lv_iconst (v := 0) hx hb d_Mo_mayRun_112 (by decide) ?_
                    refine lv_istore_n (lv' := [(1, .int 0), (0, .ref h0), (2, .int (nI k))]) hx hb d_Mo_mayRun_113 rfl hl (by decide) rfl (fun ls hl => ?_)
                    refine lv_iinc (k := 2) (v := nI (k + 1)) (lv' := [(2, .int (nI (k + 1))), (1, .int 0), (0, .ref h0)]) hx hb d_Mo_mayRun_114 hl rfl (nI_succ k).symm (by decide) rfl (fun ls hl => ?_)
                    refine lv_goto (tgt := 42) hx hb d_Mo_mayRun_117 rfl ?_
                    exact ih42 (k + 1) 0 ls H locs (by omega) (by have q := myI_1 hI hf42; rw [myG_s (by omega), if_neg (show ¬ lk sc fz k 2 = 0 from ht43)] at q; exact Or.inr ⟨rfl, q.symm⟩) (by omega) (lv_sub hl [2, 1, 0] rfl) hW
                  · refine lv_aload_n hx hb d_Mo_mayRun_72 rfl (lv_at hl 0 rfl) ?_
                    refine lv_aload_n hx hb d_Mo_mayRun_73 rfl (lv_at hl 0 rfl) ?_
                    refine Wd.get hx hb hts hown hK hW 0 6 in_Mo w_fl_Mo_17 (by decide) d_Mo_mayRun_74 rfl rfl rfl ?_
                    refine lv_bipush (v := 6) hx hb d_Mo_mayRun_77 (by decide) ?_
                    refine lv_iload_n hx hb d_Mo_mayRun_79 rfl (lv_at hl 2 rfl) ?_
                    refine lv_imul hx hb d_Mo_mayRun_80 ?_
                    refine lv_iconst (v := 3) hx hb d_Mo_mayRun_81 (by decide) ?_
                    refine lv_iadd hx hb d_Mo_mayRun_82 ?_
                    refine Wd.iald hx hb hK hW 1 d_Mo_mayRun_83 rfl (put_in (k := 3) (fr := k) (by omega) (by decide)) ?_
                    refine Ct.callV (As := [.int (sc (((6 * (nI k)) + 3).toNatClampNeg))]) (rest := []) hx hb hml hown hts hK hA hl.1 hW (c_Mo_lacks l G h0 mcd mty mtx mpl mth (nI ln) msc mfr mdr mcm mop mkd mbg mnd mam mis mip msd mrg mmn mou fz (sc (((6 * (nI k)) + 3).toNatClampNeg)) (hv _)) (cwV 1 hts (good_V w_ml_Mo_143 w_im_Mo_lacks w_se_Mo_lacks w_ini_Mo w_code_Mo_lacks) rfl rfl rfl yd_Mo_lacks ⟨by decide, by decide⟩) [0, 2] (by decide) rfl (ci := 1) (r := vr_Mo) rfl rfl rfl rfl rfl (Nat.le_of_ble_eq_true rfl) d_Mo_mayRun_84 ⟨by decide, by decide⟩ (fun v w' hp => by obtain ⟨-, rfl⟩ := hp; exact Nat.le_of_ble_eq_true rfl) (fun v w' H locs hp hW => ?_)
                    obtain ⟨rfl, rfl⟩ := hp
                    have hW : Wd G A s.heap [(h0, .inr (1, [.int mcd, .int mty, .ref mtx, .int mpl, .int mth, .int (nI ln), .ref msc, .int mfr, .ref mdr, .int mcm, .int mop, .int mkd, .int mbg, .int mnd, .int mam, .ref mis, .ref mip, .ref msd, .ref mrg, .int mmn, .ref mou])), (msc, .inl (G.2 0, 400, .inl sc)), (mis, .inl (G.2 3, 8, .inl fz)), (msd, .inl (G.2 3, 3, .inl fs))] H locs := hW
                    refine W.eq (g2 := F0 m 87 ls [.int (o_Mo_lacks_r fz (sc (((6 * (nI k)) + 3).toNatClampNeg)))]) rfl ?_
                    refine lv_if_ne (tgt := 112) hx hb d_Mo_mayRun_87 rfl (fun ht45 => ?_) (fun hf46 => ?_)
                    · refine lv_iconst (v := 0) hx hb d_Mo_mayRun_112 (by decide) ?_
                      refine lv_istore_n (lv' := [(1, .int 0), (0, .ref h0), (2, .int (nI k))]) hx hb d_Mo_mayRun_113 rfl hl (by decide) rfl (fun ls hl => ?_)
                      refine lv_iinc (k := 2) (v := nI (k + 1)) (lv' := [(2, .int (nI (k + 1))), (1, .int 0), (0, .ref h0)]) hx hb d_Mo_mayRun_114 hl rfl (nI_succ k).symm (by decide) rfl (fun ls hl => ?_)
                      refine lv_goto (tgt := 42) hx hb d_Mo_mayRun_117 rfl ?_
                      exact ih42 (k + 1) 0 ls H locs (by omega) (by have q := myI_1 hI hf42; rw [myG_s (by omega), if_pos (show lk sc fz k 2 = 0 from hf44), if_neg (show ¬ lk sc fz k 3 = 0 from ht45)] at q; exact Or.inr ⟨rfl, q.symm⟩) (by omega) (lv_sub hl [2, 1, 0] rfl) hW
                    · refine lv_aload_n hx hb d_Mo_mayRun_90 rfl (lv_at hl 0 rfl) ?_
                      refine lv_aload_n hx hb d_Mo_mayRun_91 rfl (lv_at hl 0 rfl) ?_
                      refine Wd.get hx hb hts hown hK hW 0 6 in_Mo w_fl_Mo_17 (by decide) d_Mo_mayRun_92 rfl rfl rfl ?_
                      refine lv_bipush (v := 6) hx hb d_Mo_mayRun_95 (by decide) ?_
                      refine lv_iload_n hx hb d_Mo_mayRun_97 rfl (lv_at hl 2 rfl) ?_
                      refine lv_imul hx hb d_Mo_mayRun_98 ?_
                      refine lv_iconst (v := 4) hx hb d_Mo_mayRun_99 (by decide) ?_
                      refine lv_iadd hx hb d_Mo_mayRun_100 ?_
                      refine Wd.iald hx hb hK hW 1 d_Mo_mayRun_101 rfl (put_in (k := 4) (fr := k) (by omega) (by decide)) ?_
                      refine Ct.callV (As := [.int (sc (((6 * (nI k)) + 4).toNatClampNeg))]) (rest := []) hx hb hml hown hts hK hA hl.1 hW (c_Mo_lacks l G h0 mcd mty mtx mpl mth (nI ln) msc mfr mdr mcm mop mkd mbg mnd mam mis mip msd mrg mmn mou fz (sc (((6 * (nI k)) + 4).toNatClampNeg)) (hv _)) (cwV 1 hts (good_V w_ml_Mo_143 w_im_Mo_lacks w_se_Mo_lacks w_ini_Mo w_code_Mo_lacks) rfl rfl rfl yd_Mo_lacks ⟨by decide, by decide⟩) [0, 2] (by decide) rfl (ci := 1) (r := vr_Mo) rfl rfl rfl rfl rfl (Nat.le_of_ble_eq_true rfl) d_Mo_mayRun_102 ⟨by decide, by decide⟩ (fun v w' hp => by obtain ⟨-, rfl⟩ := hp; exact Nat.le_of_ble_eq_true rfl) (fun v w' H locs hp hW => ?_)
                      obtain ⟨rfl, rfl⟩ := hp
                      have hW : Wd G A s.heap [(h0, .inr (1, [.int mcd, .int mty, .ref mtx, .int mpl, .int mth, .int (nI ln), .ref msc, .int mfr, .ref mdr, .int mcm, .int mop, .int mkd, .int mbg, .int mnd, .int mam, .ref mis, .ref mip, .ref msd, .ref mrg, .int mmn, .ref mou])), (msc, .inl (G.2 0, 400, .inl sc)), (mis, .inl (G.2 3, 8, .inl fz)), (msd, .inl (G.2 3, 3, .inl fs))] H locs := hW
                      refine W.eq (g2 := F0 m 105 ls [.int (o_Mo_lacks_r fz (sc (((6 * (nI k)) + 4).toNatClampNeg)))]) rfl ?_
                      refine lv_if_ne (tgt := 112) hx hb d_Mo_mayRun_105 rfl (fun ht47 => ?_) (fun hf48 => ?_)
                      · refine lv_iconst (v := 0) hx hb d_Mo_mayRun_112 (by decide) ?_
                        refine lv_istore_n (lv' := [(1, .int 0), (0, .ref h0), (2, .int (nI k))]) hx hb d_Mo_mayRun_113 rfl hl (by decide) rfl (fun ls hl => ?_)
                        refine lv_iinc (k := 2) (v := nI (k + 1)) (lv' := [(2, .int (nI (k + 1))), (1, .int 0), (0, .ref h0)]) hx hb d_Mo_mayRun_114 hl rfl (nI_succ k).symm (by decide) rfl (fun ls hl => ?_)
                        refine lv_goto (tgt := 42) hx hb d_Mo_mayRun_117 rfl ?_
                        exact ih42 (k + 1) 0 ls H locs (by omega) (by have q := myI_1 hI hf42; rw [myG_s (by omega), if_pos (show lk sc fz k 2 = 0 from hf44), if_pos (show lk sc fz k 3 = 0 from hf46), if_neg (show ¬ lk sc fz k 4 = 0 from ht47)] at q; exact Or.inr ⟨rfl, q.symm⟩) (by omega) (lv_sub hl [2, 1, 0] rfl) hW
                      · refine lv_iconst (v := 1) hx hb d_Mo_mayRun_108 (by decide) ?_
                        refine lv_goto (tgt := 113) hx hb d_Mo_mayRun_109 rfl ?_
                        refine lv_istore_n (lv' := [(1, .int 1), (0, .ref h0), (2, .int (nI k))]) hx hb d_Mo_mayRun_113 rfl hl (by decide) rfl (fun ls hl => ?_)
                        refine lv_iinc (k := 2) (v := nI (k + 1)) (lv' := [(2, .int (nI (k + 1))), (1, .int 1), (0, .ref h0)]) hx hb d_Mo_mayRun_114 hl rfl (nI_succ k).symm (by decide) rfl (fun ls hl => ?_)
                        refine lv_goto (tgt := 42) hx hb d_Mo_mayRun_117 rfl ?_
                        exact ih42 (k + 1) 1 ls H locs (by omega) (by have q := myI_1 hI hf42; rw [myG_s (by omega), if_pos (show lk sc fz k 2 = 0 from hf44), if_pos (show lk sc fz k 3 = 0 from hf46), if_pos (show lk sc fz k 4 = 0 from hf48)] at q; exact Or.inl ⟨rfl, by rw [show ln - (k + 1) = ln - k - 1 by omega]; exact q⟩) (by omega) (lv_sub hl [2, 1, 0] rfl) hW
          exact loop42 (_ + 1) 0 0 ls H locs (Nat.zero_le _) (Or.inr ⟨rfl, by unfold mMay; rw [if_neg (show ¬ (mth = 0) from hf2), if_neg (show ¬ ((fs 0) = 0) from hf4), if_neg (show ¬ ((fs 1) = 0) from hf6), if_pos (show ((fs 2) = 0) from ht7)]⟩) (Nat.lt_succ_self _) (lv_sub hl [2, 1, 0] rfl) hW
        · refine lv_iconst (v := 1) hx hb d_Mo_mayRun_34 (by decide) ?_
          refine lv_goto (tgt := 39) hx hb d_Mo_mayRun_35 rfl ?_
          refine lv_istore_n (lv' := [(1, .int 1), (0, .ref h0)]) hx hb d_Mo_mayRun_39 rfl hl (by decide) rfl (fun ls hl => ?_)
          refine lv_iconst (v := 0) hx hb d_Mo_mayRun_40 (by decide) ?_
          refine lv_istore_n (lv' := [(2, .int 0), (1, .int 1), (0, .ref h0)]) hx hb d_Mo_mayRun_41 rfl hl (by decide) rfl (fun ls hl => ?_)
          have loop42 : ∀ (u : Nat) (k : Nat) (my : Int32) (ls : Array Slot) (H : Heap) (locs : List Loc), k ≤ ln → myI sc fz ln k my (mMay mth fs sc fz ln) → (ln - k) < u → lv_has ls 3 [(0, .ref h0), (1, .int my), (2, .int (nI k))] → Wd G A s.heap [(h0, .inr (1, [.int mcd, .int mty, .ref mtx, .int mpl, .int mth, .int (nI ln), .ref msc, .int mfr, .ref mdr, .int mcm, .int mop, .int mkd, .int mbg, .int mnd, .int mam, .ref mis, .ref mip, .ref msd, .ref mrg, .int mmn, .ref mou])), (msc, .inl (G.2 0, 400, .inl sc)), (mis, .inl (G.2 3, 8, .inl fz)), (msd, .inl (G.2 3, 3, .inl fs))] H locs → W p l e rm_Mo_mayRun s m args below meth c H locs 0 0 (MQ below (Qcc G (fun v w' => v = some (.int (mMay mth fs sc fz ln)) ∧ w' = [(h0, .inr (1, [.int mcd, .int mty, .ref mtx, .int mpl, .int mth, .int (nI ln), .ref msc, .int mfr, .ref mdr, .int mcm, .int mop, .int mkd, .int mbg, .int mnd, .int mam, .ref mis, .ref mip, .ref msd, .ref mrg, .int mmn, .ref mou])), (msc, .inl (G.2 0, 400, .inl sc)), (mis, .inl (G.2 3, 8, .inl fz)), (msd, .inl (G.2 3, 3, .inl fs))]) A) args s 0 0 A) (F0 m 42 ls []) := by
            intro u
            induction u with
            | zero => intro k my ls H locs hk hI hu; exact absurd hu (Nat.not_lt_zero _)
            | succ u ih42 =>
              intro k my ls H locs hk hI hu42 hl hW
              refine lv_iload_n hx hb d_Mo_mayRun_42 rfl (lv_at hl 2 rfl) ?_
              refine lv_aload_n hx hb d_Mo_mayRun_43 rfl (lv_at hl 0 rfl) ?_
              refine Wd.get hx hb hts hown hK hW 0 5 in_Mo w_fl_Mo_140 (by decide) d_Mo_mayRun_44 rfl rfl rfl ?_
              refine lv_icmp_ge (tgt := 120) hx hb d_Mo_mayRun_47 rfl (fun ht49 => ?_) (fun hf50 => ?_)
              · have hkn : ln ≤ k := (nI_leI (a := ln) (b := k) (by omega) (by omega)).mp ht49
                refine lv_iload_n hx hb d_Mo_mayRun_120 rfl (lv_at hl 1 rfl) ?_
                exact Ct.zret hx hb hr hnl hW (by decide) (by decide) d_Mo_mayRun_121 (by exact nb01 (myI_b hI)) (by rw [myI_end hI hkn]; exact ⟨rfl, rfl⟩)
              · have hkn : k < ln := by apply Nat.lt_of_not_le; intro q; exact hf50 (nI_le q (by omega))
                refine lv_iload_n hx hb d_Mo_mayRun_50 rfl (lv_at hl 1 rfl) ?_
                refine lv_if_eq (tgt := 120) hx hb d_Mo_mayRun_51 rfl (fun ht51 => ?_) (fun hf52 => ?_)
                · refine lv_iload_n hx hb d_Mo_mayRun_120 rfl (lv_at hl 1 rfl) ?_
                  exact Ct.zret hx hb hr hnl hW (by decide) (by decide) d_Mo_mayRun_121 (by exact nb01 (myI_b hI)) (by rw [myI_0 hI ht51]; exact ⟨rfl, rfl⟩)
                · refine lv_aload_n hx hb d_Mo_mayRun_54 rfl (lv_at hl 0 rfl) ?_
                  refine lv_aload_n hx hb d_Mo_mayRun_55 rfl (lv_at hl 0 rfl) ?_
                  refine Wd.get hx hb hts hown hK hW 0 6 in_Mo w_fl_Mo_17 (by decide) d_Mo_mayRun_56 rfl rfl rfl ?_
                  refine lv_bipush (v := 6) hx hb d_Mo_mayRun_59 (by decide) ?_
                  refine lv_iload_n hx hb d_Mo_mayRun_61 rfl (lv_at hl 2 rfl) ?_
                  refine lv_imul hx hb d_Mo_mayRun_62 ?_
                  refine lv_iconst (v := 2) hx hb d_Mo_mayRun_63 (by decide) ?_
                  refine lv_iadd hx hb d_Mo_mayRun_64 ?_
                  refine Wd.iald hx hb hK hW 1 d_Mo_mayRun_65 rfl (put_in (k := 2) (fr := k) (by omega) (by decide)) ?_
                  refine Ct.callV (As := [.int (sc (((6 * (nI k)) + 2).toNatClampNeg))]) (rest := []) hx hb hml hown hts hK hA hl.1 hW (c_Mo_lacks l G h0 mcd mty mtx mpl mth (nI ln) msc mfr mdr mcm mop mkd mbg mnd mam mis mip msd mrg mmn mou fz (sc (((6 * (nI k)) + 2).toNatClampNeg)) (hv _)) (cwV 1 hts (good_V w_ml_Mo_143 w_im_Mo_lacks w_se_Mo_lacks w_ini_Mo w_code_Mo_lacks) rfl rfl rfl yd_Mo_lacks ⟨by decide, by decide⟩) [0, 2] (by decide) rfl (ci := 1) (r := vr_Mo) rfl rfl rfl rfl rfl (Nat.le_of_ble_eq_true rfl) d_Mo_mayRun_66 ⟨by decide, by decide⟩ (fun v w' hp => by obtain ⟨-, rfl⟩ := hp; exact Nat.le_of_ble_eq_true rfl) (fun v w' H locs hp hW => ?_)
                  obtain ⟨rfl, rfl⟩ := hp
                  have hW : Wd G A s.heap [(h0, .inr (1, [.int mcd, .int mty, .ref mtx, .int mpl, .int mth, .int (nI ln), .ref msc, .int mfr, .ref mdr, .int mcm, .int mop, .int mkd, .int mbg, .int mnd, .int mam, .ref mis, .ref mip, .ref msd, .ref mrg, .int mmn, .ref mou])), (msc, .inl (G.2 0, 400, .inl sc)), (mis, .inl (G.2 3, 8, .inl fz)), (msd, .inl (G.2 3, 3, .inl fs))] H locs := hW
                  refine W.eq (g2 := F0 m 69 ls [.int (o_Mo_lacks_r fz (sc (((6 * (nI k)) + 2).toNatClampNeg)))]) rfl ?_
                  refine lv_if_ne (tgt := 112) hx hb d_Mo_mayRun_69 rfl (fun ht53 => ?_) (fun hf54 => ?_)
                  · refine lv_iconst (v := 0) hx hb d_Mo_mayRun_112 (by decide) ?_
                    refine lv_istore_n (lv' := [(1, .int 0), (0, .ref h0), (2, .int (nI k))]) hx hb d_Mo_mayRun_113 rfl hl (by decide) rfl (fun ls hl => ?_)
                    refine lv_iinc (k := 2) (v := nI (k + 1)) (lv' := [(2, .int (nI (k + 1))), (1, .int 0), (0, .ref h0)]) hx hb d_Mo_mayRun_114 hl rfl (nI_succ k).symm (by decide) rfl (fun ls hl => ?_)
                    refine lv_goto (tgt := 42) hx hb d_Mo_mayRun_117 rfl ?_
                    exact ih42 (k + 1) 0 ls H locs (by omega) (by have q := myI_1 hI hf52; rw [myG_s (by omega), if_neg (show ¬ lk sc fz k 2 = 0 from ht53)] at q; exact Or.inr ⟨rfl, q.symm⟩) (by omega) (lv_sub hl [2, 1, 0] rfl) hW
                  · refine lv_aload_n hx hb d_Mo_mayRun_72 rfl (lv_at hl 0 rfl) ?_
                    refine lv_aload_n hx hb d_Mo_mayRun_73 rfl (lv_at hl 0 rfl) ?_
                    refine Wd.get hx hb hts hown hK hW 0 6 in_Mo w_fl_Mo_17 (by decide) d_Mo_mayRun_74 rfl rfl rfl ?_
                    refine lv_bipush (v := 6) hx hb d_Mo_mayRun_77 (by decide) ?_
                    refine lv_iload_n hx hb d_Mo_mayRun_79 rfl (lv_at hl 2 rfl) ?_
                    refine lv_imul hx hb d_Mo_mayRun_80 ?_
                    refine lv_iconst (v := 3) hx hb d_Mo_mayRun_81 (by decide) ?_
                    refine lv_iadd hx hb d_Mo_mayRun_82 ?_
                    refine Wd.iald hx hb hK hW 1 d_Mo_mayRun_83 rfl (put_in (k := 3) (fr := k) (by omega) (by decide)) ?_
                    refine Ct.callV (As := [.int (sc (((6 * (nI k)) + 3).toNatClampNeg))]) (rest := []) hx hb hml hown hts hK hA hl.1 hW (c_Mo_lacks l G h0 mcd mty mtx mpl mth (nI ln) msc mfr mdr mcm mop mkd mbg mnd mam mis mip msd mrg mmn mou fz (sc (((6 * (nI k)) + 3).toNatClampNeg)) (hv _)) (cwV 1 hts (good_V w_ml_Mo_143 w_im_Mo_lacks w_se_Mo_lacks w_ini_Mo w_code_Mo_lacks) rfl rfl rfl yd_Mo_lacks ⟨by decide, by decide⟩) [0, 2] (by decide) rfl (ci := 1) (r := vr_Mo) rfl rfl rfl rfl rfl (Nat.le_of_ble_eq_true rfl) d_Mo_mayRun_84 ⟨by decide, by decide⟩ (fun v w' hp => by obtain ⟨-, rfl⟩ := hp; exact Nat.le_of_ble_eq_true rfl) (fun v w' H locs hp hW => ?_)
                    obtain ⟨rfl, rfl⟩ := hp
                    have hW : Wd G A s.heap [(h0, .inr (1, [.int mcd, .int mty, .ref mtx, .int mpl, .int mth, .int (nI ln), .ref msc, .int mfr, .ref mdr, .int mcm, .int mop, .int mkd, .int mbg, .int mnd, .int mam, .ref mis, .ref mip, .ref msd, .ref mrg, .int mmn, .ref mou])), (msc, .inl (G.2 0, 400, .inl sc)), (mis, .inl (G.2 3, 8, .inl fz)), (msd, .inl (G.2 3, 3, .inl fs))] H locs := hW
                    refine W.eq (g2 := F0 m 87 ls [.int (o_Mo_lacks_r fz (sc (((6 * (nI k)) + 3).toNatClampNeg)))]) rfl ?_
                    refine lv_if_ne (tgt := 112) hx hb d_Mo_mayRun_87 rfl (fun ht55 => ?_) (fun hf56 => ?_)
                    · refine lv_iconst (v := 0) hx hb d_Mo_mayRun_112 (by decide) ?_
                      refine lv_istore_n (lv' := [(1, .int 0), (0, .ref h0), (2, .int (nI k))]) hx hb d_Mo_mayRun_113 rfl hl (by decide) rfl (fun ls hl => ?_)
                      refine lv_iinc (k := 2) (v := nI (k + 1)) (lv' := [(2, .int (nI (k + 1))), (1, .int 0), (0, .ref h0)]) hx hb d_Mo_mayRun_114 hl rfl (nI_succ k).symm (by decide) rfl (fun ls hl => ?_)
                      refine lv_goto (tgt := 42) hx hb d_Mo_mayRun_117 rfl ?_
                      exact ih42 (k + 1) 0 ls H locs (by omega) (by have q := myI_1 hI hf52; rw [myG_s (by omega), if_pos (show lk sc fz k 2 = 0 from hf54), if_neg (show ¬ lk sc fz k 3 = 0 from ht55)] at q; exact Or.inr ⟨rfl, q.symm⟩) (by omega) (lv_sub hl [2, 1, 0] rfl) hW
                    · refine lv_aload_n hx hb d_Mo_mayRun_90 rfl (lv_at hl 0 rfl) ?_
                      refine lv_aload_n hx hb d_Mo_mayRun_91 rfl (lv_at hl 0 rfl) ?_
                      refine Wd.get hx hb hts hown hK hW 0 6 in_Mo w_fl_Mo_17 (by decide) d_Mo_mayRun_92 rfl rfl rfl ?_
                      refine lv_bipush (v := 6) hx hb d_Mo_mayRun_95 (by decide) ?_
                      refine lv_iload_n hx hb d_Mo_mayRun_97 rfl (lv_at hl 2 rfl) ?_
                      refine lv_imul hx hb d_Mo_mayRun_98 ?_
                      refine lv_iconst (v := 4) hx hb d_Mo_mayRun_99 (by decide) ?_
                      refine lv_iadd hx hb d_Mo_mayRun_100 ?_
                      refine Wd.iald hx hb hK hW 1 d_Mo_mayRun_101 rfl (put_in (k := 4) (fr := k) (by omega) (by decide)) ?_
                      refine Ct.callV (As := [.int (sc (((6 * (nI k)) + 4).toNatClampNeg))]) (rest := []) hx hb hml hown hts hK hA hl.1 hW (c_Mo_lacks l G h0 mcd mty mtx mpl mth (nI ln) msc mfr mdr mcm mop mkd mbg mnd mam mis mip msd mrg mmn mou fz (sc (((6 * (nI k)) + 4).toNatClampNeg)) (hv _)) (cwV 1 hts (good_V w_ml_Mo_143 w_im_Mo_lacks w_se_Mo_lacks w_ini_Mo w_code_Mo_lacks) rfl rfl rfl yd_Mo_lacks ⟨by decide, by decide⟩) [0, 2] (by decide) rfl (ci := 1) (r := vr_Mo) rfl rfl rfl rfl rfl (Nat.le_of_ble_eq_true rfl) d_Mo_mayRun_102 ⟨by decide, by decide⟩ (fun v w' hp => by obtain ⟨-, rfl⟩ := hp; exact Nat.le_of_ble_eq_true rfl) (fun v w' H locs hp hW => ?_)
                      obtain ⟨rfl, rfl⟩ := hp
                      have hW : Wd G A s.heap [(h0, .inr (1, [.int mcd, .int mty, .ref mtx, .int mpl, .int mth, .int (nI ln), .ref msc, .int mfr, .ref mdr, .int mcm, .int mop, .int mkd, .int mbg, .int mnd, .int mam, .ref mis, .ref mip, .ref msd, .ref mrg, .int mmn, .ref mou])), (msc, .inl (G.2 0, 400, .inl sc)), (mis, .inl (G.2 3, 8, .inl fz)), (msd, .inl (G.2 3, 3, .inl fs))] H locs := hW
                      refine W.eq (g2 := F0 m 105 ls [.int (o_Mo_lacks_r fz (sc (((6 * (nI k)) + 4).toNatClampNeg)))]) rfl ?_
                      refine lv_if_ne (tgt := 112) hx hb d_Mo_mayRun_105 rfl (fun ht57 => ?_) (fun hf58 => ?_)
                      · refine lv_iconst (v := 0) hx hb d_Mo_mayRun_112 (by decide) ?_
                        refine lv_istore_n (lv' := [(1, .int 0), (0, .ref h0), (2, .int (nI k))]) hx hb d_Mo_mayRun_113 rfl hl (by decide) rfl (fun ls hl => ?_)
                        refine lv_iinc (k := 2) (v := nI (k + 1)) (lv' := [(2, .int (nI (k + 1))), (1, .int 0), (0, .ref h0)]) hx hb d_Mo_mayRun_114 hl rfl (nI_succ k).symm (by decide) rfl (fun ls hl => ?_)
                        refine lv_goto (tgt := 42) hx hb d_Mo_mayRun_117 rfl ?_
                        exact ih42 (k + 1) 0 ls H locs (by omega) (by have q := myI_1 hI hf52; rw [myG_s (by omega), if_pos (show lk sc fz k 2 = 0 from hf54), if_pos (show lk sc fz k 3 = 0 from hf56), if_neg (show ¬ lk sc fz k 4 = 0 from ht57)] at q; exact Or.inr ⟨rfl, q.symm⟩) (by omega) (lv_sub hl [2, 1, 0] rfl) hW
                      · refine lv_iconst (v := 1) hx hb d_Mo_mayRun_108 (by decide) ?_
                        refine lv_goto (tgt := 113) hx hb d_Mo_mayRun_109 rfl ?_
                        refine lv_istore_n (lv' := [(1, .int 1), (0, .ref h0), (2, .int (nI k))]) hx hb d_Mo_mayRun_113 rfl hl (by decide) rfl (fun ls hl => ?_)
                        refine lv_iinc (k := 2) (v := nI (k + 1)) (lv' := [(2, .int (nI (k + 1))), (1, .int 1), (0, .ref h0)]) hx hb d_Mo_mayRun_114 hl rfl (nI_succ k).symm (by decide) rfl (fun ls hl => ?_)
                        refine lv_goto (tgt := 42) hx hb d_Mo_mayRun_117 rfl ?_
                        exact ih42 (k + 1) 1 ls H locs (by omega) (by have q := myI_1 hI hf52; rw [myG_s (by omega), if_pos (show lk sc fz k 2 = 0 from hf54), if_pos (show lk sc fz k 3 = 0 from hf56), if_pos (show lk sc fz k 4 = 0 from hf58)] at q; exact Or.inl ⟨rfl, by rw [show ln - (k + 1) = ln - k - 1 by omega]; exact q⟩) (by omega) (lv_sub hl [2, 1, 0] rfl) hW
          exact loop42 (_ + 1) 0 1 ls H locs (Nat.zero_le _) (Or.inl ⟨rfl, by unfold mMay; rw [if_neg (show ¬ (mth = 0) from hf2), if_neg (show ¬ ((fs 0) = 0) from hf4), if_neg (show ¬ ((fs 1) = 0) from hf6), if_neg (show ¬ ((fs 2) = 0) from hf8)]; rfl⟩) (Nat.lt_succ_self _) (lv_sub hl [2, 1, 0] rfl) hW

/-! the reference runs -/
def zrF (n : Nat) (fg : Nat → Int32) : Nat → Int32 := fun j => if j < n then 0 else fg j
theorem zrF_s (n : Nat) (fg : Nat → Int32) (hn : n < 2 ^ 31) : upd (zrF n fg) (nI n).toNatClampNeg 0 = zrF (n + 1) fg := by
  funext j
  rw [nI_clamp hn]
  unfold upd zrF
  by_cases h : j = n
  · rw [if_pos h, if_pos (by omega)]
  · rw [if_neg h]
    by_cases h2 : j < n
    · rw [if_pos h2, if_pos (by omega)]
    · rw [if_neg h2, if_neg (by omega)]
theorem zrF_0 (fg : Nat → Int32) : zrF 0 fg = fg := by
  funext j
  unfold zrF
  rw [if_neg (by omega)]
def rU (sc fi : Nat → Int32) (ra rz : Nat → Nat) (fg fo : Nat → Int32) : Nat → (Nat → Int32) × (Nat → Int32) × Int32
  | 0 => (zrF 26 fg, fo, 0)
  | k + 1 => mCar sc fi (6 * k) (ra k) (rz k) (rU sc fi ra rz fg fo k).1 (rU sc fi ra rz fg fo k).2.1 (rU sc fi ra rz fg fo k).2.2
abbrev rm_Mo_runR : Room := { frames := 3, cells := 0, slots := 0, locals := 73 }
set_option maxHeartbeats 4000000 in
set_option maxRecDepth 100000 in
theorem c_Mo_runR (l : Launch) (G : Gt) (h0 : Nat) (mcd : Int32) (mty : Int32) (mtx : Nat) (mpl : Int32) (mth : Int32) (msc : Nat) (mfr : Int32) (mdr : Nat) (mcm : Int32) (mop : Int32) (mkd : Int32) (mbg : Int32) (mnd : Int32) (mam : Int32) (mis : Nat) (mip : Nat) (msd : Nat) (mrg : Nat) (mmn : Int32) (mou : Nat) (ln : Nat) (sc : Nat → Int32) (fi : Nat → Int32) (fg : Nat → Int32) (fo : Nat → Int32) (fz : Nat → Int32) (fs : Nat → Int32) (ra : Nat → Nat) (rz : Nat → Nat) (x : Int32) (hln : ln ≤ 60) (hv : ∀ j, ¬ sc j < 100 → sc j < 1000 → vp_in (sc j - 100) 8) (hrow : ∀ k, k < ln → sc ((nI (6 * k)) + 1).toNatClampNeg = nI (ra k) ∧ ra k < 26 ∧ (sc (nI (6 * k)).toNatClampNeg = 6 ∨ sc (nI (6 * k)).toNatClampNeg = 7 → sc ((nI (6 * k)) + 5).toNatClampNeg = nI (rz k) ∧ ra k ≤ rz k ∧ rz k < 26) ∧ (sc (nI (6 * k)).toNatClampNeg = 8 → vp_in (rU sc fi ra rz fg fo k).2.2 16) ∧ (∀ i : Nat, i < 5 → (¬ sc (nI (6 * k) + nI i).toNatClampNeg < 100 → sc (nI (6 * k) + nI i).toNatClampNeg < 1000 → vp_in (sc (nI (6 * k) + nI i).toNatClampNeg - 100) 8) ∧ (sc (nI (6 * k) + nI i).toNatClampNeg < 100 → vp_in (sc (nI (6 * k) + nI i).toNatClampNeg) 26))) (hmay : ¬ mMay mth fs sc fz ln = 0) : Ct l G y_Mo_run b_Mo_run 3 (some .int) rm_Mo_runR [.ref h0, .int x] [(h0, .inr (1, [.int mcd, .int mty, .ref mtx, .int mpl, .int mth, .int (nI ln), .ref msc, .int mfr, .ref mdr, .int mcm, .int mop, .int mkd, .int mbg, .int mnd, .int mam, .ref mis, .ref mip, .ref msd, .ref mrg, .int mmn, .ref mou])), (msc, .inl (G.2 0, 400, .inl sc)), (mip, .inl (G.2 0, 8, .inl fi)), (mrg, .inl (G.2 0, 26, .inl fg)), (mou, .inl (G.2 0, 16, .inl fo)), (mis, .inl (G.2 3, 8, .inl fz)), (msd, .inl (G.2 3, 3, .inl fs))] 0 0 (fun v w' => v = some (.int ((rU sc fi ra rz fg fo ln).2.2)) ∧ w' = [(h0, .inr (1, [.int 0, .int mty, .ref mtx, .int mpl, .int mth, .int (nI ln), .ref msc, .int mfr, .ref mdr, .int mcm, .int mop, .int mkd, .int mbg, .int mnd, .int mam, .ref mis, .ref mip, .ref msd, .ref mrg, .int ((rU sc fi ra rz fg fo ln).2.2), .ref mou])), (msc, .inl (G.2 0, 400, .inl sc)), (mip, .inl (G.2 0, 8, .inl fi)), (mrg, .inl (G.2 0, 26, .inl ((rU sc fi ra rz fg fo ln).1))), (mou, .inl (G.2 0, 16, .inl ((rU sc fi ra rz fg fo ln).2.1))), (mis, .inl (G.2 3, 8, .inl fz)), (msd, .inl (G.2 3, 3, .inl fs))]) := by
  refine Ct.of (by decide) (Nat.le_of_ble_eq_true rfl) (fun p e s m args below meth c A ls H locs hx hb hml hr hnl hown hts hnm hK hA hl hW => ?_)
  have hl : lv_has ls 3 [(0, .ref h0), (1, .int x)] := hl
  refine lv_aload_n hx hb d_Mo_run_0 rfl (lv_at hl 0 rfl) ?_
  refine lv_aload_n hx hb d_Mo_run_1 rfl (lv_at hl 0 rfl) ?_
  refine Ct.callV (As := []) (rest := [.ref h0]) hx hb hml hown hts hK hA hl.1 hW (c_Mo_mayRun l G h0 mcd mty mtx mpl mth msc mfr mdr mcm mop mkd mbg mnd mam mis mip msd mrg mmn mou ln sc fz fs hln hv) (cwV 0 hts (good_V w_ml_Mo_165 w_im_Mo_mayRun w_se_Mo_mayRun w_ini_Mo w_code_Mo_mayRun) rfl rfl rfl yd_Mo_mayRun ⟨by decide, by decide⟩) [0, 1, 5, 6] (by decide) rfl (ci := 1) (r := vr_Mo) rfl rfl rfl rfl rfl (Nat.le_of_ble_eq_true rfl) d_Mo_run_2 ⟨by decide, by decide⟩ (fun v w' hp => by obtain ⟨-, rfl⟩ := hp; exact Nat.le_of_ble_eq_true rfl) (fun v w' H locs hp hW => ?_)
  obtain ⟨rfl, rfl⟩ := hp
  have hW : Wd G A s.heap [(h0, .inr (1, [.int mcd, .int mty, .ref mtx, .int mpl, .int mth, .int (nI ln), .ref msc, .int mfr, .ref mdr, .int mcm, .int mop, .int mkd, .int mbg, .int mnd, .int mam, .ref mis, .ref mip, .ref msd, .ref mrg, .int mmn, .ref mou])), (msc, .inl (G.2 0, 400, .inl sc)), (mip, .inl (G.2 0, 8, .inl fi)), (mrg, .inl (G.2 0, 26, .inl fg)), (mou, .inl (G.2 0, 16, .inl fo)), (mis, .inl (G.2 3, 8, .inl fz)), (msd, .inl (G.2 3, 3, .inl fs))] H locs := hW
  refine W.eq (g2 := F0 m 5 ls [.int (mMay mth fs sc fz ln), .ref h0]) rfl ?_
  refine lv_if_eq (tgt := 12) hx hb d_Mo_run_5 rfl (fun hz => absurd hz hmay) (fun _ => ?_)
  refine lv_iconst (v := 0) hx hb d_Mo_run_8 (by decide) ?_
  refine lv_goto (tgt := 13) hx hb d_Mo_run_9 rfl ?_
  refine Wd.put hx hb hts hown hK hW 0 0 in_Mo t_Mo_ok n_Mo w_fl_Mo_40 (by decide) d_Mo_run_13 rfl rfl rfl rfl rfl (Nat.le_of_ble_eq_true rfl) (fun H locs hW => ?_)
  have hW : Wd G A s.heap [(h0, .inr (1, [.int 0, .int mty, .ref mtx, .int mpl, .int mth, .int (nI ln), .ref msc, .int mfr, .ref mdr, .int mcm, .int mop, .int mkd, .int mbg, .int mnd, .int mam, .ref mis, .ref mip, .ref msd, .ref mrg, .int mmn, .ref mou])), (msc, .inl (G.2 0, 400, .inl sc)), (mip, .inl (G.2 0, 8, .inl fi)), (mrg, .inl (G.2 0, 26, .inl fg)), (mou, .inl (G.2 0, 16, .inl fo)), (mis, .inl (G.2 3, 8, .inl fz)), (msd, .inl (G.2 3, 3, .inl fs))] H locs := hW
  refine lv_aload_n hx hb d_Mo_run_16 rfl (lv_at hl 0 rfl) ?_
  refine Wd.get hx hb hts hown hK hW 0 0 in_Mo w_fl_Mo_40 (by decide) d_Mo_run_17 rfl rfl rfl ?_
  refine lv_if_le (tgt := 25) hx hb d_Mo_run_20 rfl (fun _ => ?_) (fun hz => absurd (by decide) hz)
  refine lv_iconst (v := 0) hx hb d_Mo_run_25 (by decide) ?_
  refine lv_istore_n (lv' := [(2, .int 0), (0, .ref h0), (1, .int x)]) hx hb d_Mo_run_26 rfl hl (by decide) rfl (fun ls hl => ?_)
  have loop27 : ∀ (u : Nat) (r : Nat) (ls : Array Slot) (H : Heap) (locs : List Loc), r ≤ 26 → (26 - r) < u → lv_has ls 3 [(0, .ref h0), (2, .int (nI r))] → Wd G A s.heap [(h0, .inr (1, [.int 0, .int mty, .ref mtx, .int mpl, .int mth, .int (nI ln), .ref msc, .int mfr, .ref mdr, .int mcm, .int mop, .int mkd, .int mbg, .int mnd, .int mam, .ref mis, .ref mip, .ref msd, .ref mrg, .int mmn, .ref mou])), (msc, .inl (G.2 0, 400, .inl sc)), (mip, .inl (G.2 0, 8, .inl fi)), (mrg, .inl (G.2 0, 26, .inl (zrF r fg))), (mou, .inl (G.2 0, 16, .inl fo)), (mis, .inl (G.2 3, 8, .inl fz)), (msd, .inl (G.2 3, 3, .inl fs))] H locs → W p l e rm_Mo_runR s m args below meth c H locs 0 0 (MQ below (Qcc G (fun v w' => v = some (.int ((rU sc fi ra rz fg fo ln).2.2)) ∧ w' = [(h0, .inr (1, [.int 0, .int mty, .ref mtx, .int mpl, .int mth, .int (nI ln), .ref msc, .int mfr, .ref mdr, .int mcm, .int mop, .int mkd, .int mbg, .int mnd, .int mam, .ref mis, .ref mip, .ref msd, .ref mrg, .int ((rU sc fi ra rz fg fo ln).2.2), .ref mou])), (msc, .inl (G.2 0, 400, .inl sc)), (mip, .inl (G.2 0, 8, .inl fi)), (mrg, .inl (G.2 0, 26, .inl ((rU sc fi ra rz fg fo ln).1))), (mou, .inl (G.2 0, 16, .inl ((rU sc fi ra rz fg fo ln).2.1))), (mis, .inl (G.2 3, 8, .inl fz)), (msd, .inl (G.2 3, 3, .inl fs))]) A) args s 0 0 A) (F0 m 27 ls []) := by
    intro u
    induction u with
    | zero => intro r ls H locs hr_r hu; exact absurd hu (Nat.not_lt_zero _)
    | succ u ih27 =>
      intro r ls H locs hr_r hu27 hl hW
      refine lv_iload_n hx hb d_Mo_run_27 rfl (lv_at hl 1 rfl) ?_
      refine lv_bipush (v := 26) hx hb d_Mo_run_28 (by decide) ?_
      refine lv_icmp_ge (tgt := 46) hx hb d_Mo_run_30 rfl (fun ht1 => ?_) (fun hf2 => ?_)
      · have hr26 : r = 26 := by have := (nI_leI (a := 26) (b := r) (by omega) (by omega)).mp ht1; omega
        refine lv_aload_n hx hb d_Mo_run_46 rfl (lv_at hl 0 rfl) ?_
        refine lv_iconst (v := 0) hx hb d_Mo_run_47 (by decide) ?_
        refine Wd.put hx hb hts hown hK hW 0 19 in_Mo t_Mo_ok n_Mo w_fl_Mo_156 (by decide) d_Mo_run_48 rfl rfl rfl rfl rfl (Nat.le_of_ble_eq_true rfl) (fun H locs hW => ?_)
        have hW : Wd G A s.heap [(h0, .inr (1, [.int 0, .int mty, .ref mtx, .int mpl, .int mth, .int (nI ln), .ref msc, .int mfr, .ref mdr, .int mcm, .int mop, .int mkd, .int mbg, .int mnd, .int mam, .ref mis, .ref mip, .ref msd, .ref mrg, .int 0, .ref mou])), (msc, .inl (G.2 0, 400, .inl sc)), (mip, .inl (G.2 0, 8, .inl fi)), (mrg, .inl (G.2 0, 26, .inl (zrF r fg))), (mou, .inl (G.2 0, 16, .inl fo)), (mis, .inl (G.2 3, 8, .inl fz)), (msd, .inl (G.2 3, 3, .inl fs))] H locs := hW
        refine lv_iconst (v := 0) hx hb d_Mo_run_51 (by decide) ?_
        refine lv_istore_n (lv' := [(2, .int 0), (0, .ref h0)]) hx hb d_Mo_run_52 rfl hl (by decide) rfl (fun ls hl => ?_)
        have loop53 : ∀ (u : Nat) (k : Nat) (ls : Array Slot) (H : Heap) (locs : List Loc), k ≤ ln → (ln - k) < u → lv_has ls 3 [(0, .ref h0), (2, .int (nI k))] → Wd G A s.heap [(h0, .inr (1, [.int 0, .int mty, .ref mtx, .int mpl, .int mth, .int (nI ln), .ref msc, .int mfr, .ref mdr, .int mcm, .int mop, .int mkd, .int mbg, .int mnd, .int mam, .ref mis, .ref mip, .ref msd, .ref mrg, .int ((rU sc fi ra rz fg fo k).2.2), .ref mou])), (msc, .inl (G.2 0, 400, .inl sc)), (mip, .inl (G.2 0, 8, .inl fi)), (mrg, .inl (G.2 0, 26, .inl ((rU sc fi ra rz fg fo k).1))), (mou, .inl (G.2 0, 16, .inl ((rU sc fi ra rz fg fo k).2.1))), (mis, .inl (G.2 3, 8, .inl fz)), (msd, .inl (G.2 3, 3, .inl fs))] H locs → W p l e rm_Mo_runR s m args below meth c H locs 0 0 (MQ below (Qcc G (fun v w' => v = some (.int ((rU sc fi ra rz fg fo ln).2.2)) ∧ w' = [(h0, .inr (1, [.int 0, .int mty, .ref mtx, .int mpl, .int mth, .int (nI ln), .ref msc, .int mfr, .ref mdr, .int mcm, .int mop, .int mkd, .int mbg, .int mnd, .int mam, .ref mis, .ref mip, .ref msd, .ref mrg, .int ((rU sc fi ra rz fg fo ln).2.2), .ref mou])), (msc, .inl (G.2 0, 400, .inl sc)), (mip, .inl (G.2 0, 8, .inl fi)), (mrg, .inl (G.2 0, 26, .inl ((rU sc fi ra rz fg fo ln).1))), (mou, .inl (G.2 0, 16, .inl ((rU sc fi ra rz fg fo ln).2.1))), (mis, .inl (G.2 3, 8, .inl fz)), (msd, .inl (G.2 3, 3, .inl fs))]) A) args s 0 0 A) (F0 m 53 ls []) := by
          intro u
          induction u with
          | zero => intro k ls H locs hk hu; exact absurd hu (Nat.not_lt_zero _)
          | succ u ih53 =>
            intro k ls H locs hk hu53 hl hW
            refine lv_iload_n hx hb d_Mo_run_53 rfl (lv_at hl 1 rfl) ?_
            refine lv_aload_n hx hb d_Mo_run_54 rfl (lv_at hl 0 rfl) ?_
            refine Wd.get hx hb hts hown hK hW 0 5 in_Mo w_fl_Mo_140 (by decide) d_Mo_run_55 rfl rfl rfl ?_
            refine lv_icmp_ge (tgt := 75) hx hb d_Mo_run_58 rfl (fun ht3 => ?_) (fun hf4 => ?_)
            · have hkn : k = ln := by have := (nI_leI (a := ln) (b := k) (by omega) (by omega)).mp ht3; omega
              refine lv_aload_n hx hb d_Mo_run_75 rfl (lv_at hl 0 rfl) ?_
              refine Wd.get hx hb hts hown hK hW 0 19 in_Mo w_fl_Mo_156 (by decide) d_Mo_run_76 rfl rfl rfl ?_
              exact Ct.iret hx hb hr hnl hW (by decide) (by decide) d_Mo_run_79 (by subst hkn; exact ⟨rfl, rfl⟩)
            · have hkn : k < ln := by apply Nat.lt_of_not_le; intro q; exact hf4 (nI_le q (by omega))
              refine lv_aload_n hx hb d_Mo_run_61 rfl (lv_at hl 0 rfl) ?_
              refine lv_bipush (v := 6) hx hb d_Mo_run_62 (by decide) ?_
              refine lv_iload_n hx hb d_Mo_run_64 rfl (lv_at hl 1 rfl) ?_
              refine lv_imul hx hb d_Mo_run_65 ?_
              refine lv_topi (fun cz ez => ?_)
              obtain rfl : cz = nI (6 * k) := ez.trans (Int32.ofNat_mul 6 k).symm
              refine Ct.callV (As := [.int (nI (6 * k))]) (rest := []) hx hb hml hown hts hK hA hl.1 hW (c_Mo_carry l G h0 (0 : Int32) mty mtx mpl mth (nI ln) msc mfr mdr mcm mop mkd mbg mnd mam mis mip msd mrg ((rU sc fi ra rz fg fo k).2.2) mou (6 * k) (ra k) (rz k) sc fi ((rU sc fi ra rz fg fo k).1) ((rU sc fi ra rz fg fo k).2.1) (by omega) (hrow k hkn).1 (hrow k hkn).2.1 (hrow k hkn).2.2.1 (hrow k hkn).2.2.2.1 (hrow k hkn).2.2.2.2) (cwV 1 hts (good_V w_ml_Mo_168 w_im_Mo_carry w_se_Mo_carry w_ini_Mo w_code_Mo_carry) rfl rfl rfl yd_Mo_carry ⟨by decide, by decide⟩) [0, 1, 2, 3, 4] (by decide) rfl (ci := 1) (r := vr_Mo) rfl rfl rfl rfl rfl (Nat.le_of_ble_eq_true rfl) d_Mo_run_66 ⟨by decide, by decide⟩ (fun v w' hp => by obtain ⟨-, rfl⟩ := hp; exact Nat.le_of_ble_eq_true rfl) (fun v w' H locs hp hW => ?_)
              obtain ⟨rfl, rfl⟩ := hp
              have hW : Wd G A s.heap [(h0, .inr (1, [.int 0, .int mty, .ref mtx, .int mpl, .int mth, .int (nI ln), .ref msc, .int mfr, .ref mdr, .int mcm, .int mop, .int mkd, .int mbg, .int mnd, .int mam, .ref mis, .ref mip, .ref msd, .ref mrg, .int ((mCar sc fi (6 * k) (ra k) (rz k) ((rU sc fi ra rz fg fo k).1) ((rU sc fi ra rz fg fo k).2.1) ((rU sc fi ra rz fg fo k).2.2)).2.2), .ref mou])), (msc, .inl (G.2 0, 400, .inl sc)), (mip, .inl (G.2 0, 8, .inl fi)), (mrg, .inl (G.2 0, 26, .inl ((mCar sc fi (6 * k) (ra k) (rz k) ((rU sc fi ra rz fg fo k).1) ((rU sc fi ra rz fg fo k).2.1) ((rU sc fi ra rz fg fo k).2.2)).1))), (mou, .inl (G.2 0, 16, .inl ((mCar sc fi (6 * k) (ra k) (rz k) ((rU sc fi ra rz fg fo k).1) ((rU sc fi ra rz fg fo k).2.1) ((rU sc fi ra rz fg fo k).2.2)).2.1))), (mis, .inl (G.2 3, 8, .inl fz)), (msd, .inl (G.2 3, 3, .inl fs))] H locs := hW
              refine W.eq (g2 := F0 m 69 ls []) rfl ?_
              refine lv_iinc (k := 1) (v := nI (k + 1)) (lv' := [(2, .int (nI (k + 1))), (0, .ref h0)]) hx hb d_Mo_run_69 hl rfl (nI_succ k).symm (by decide) rfl (fun ls hl => ?_)
              refine lv_goto (tgt := 53) hx hb d_Mo_run_72 rfl ?_
              exact ih53 (k + 1) ls H locs (by omega) (by omega) (lv_sub hl [1, 0] rfl) hW
        have hW : Wd G A s.heap [(h0, .inr (1, [.int 0, .int mty, .ref mtx, .int mpl, .int mth, .int (nI ln), .ref msc, .int mfr, .ref mdr, .int mcm, .int mop, .int mkd, .int mbg, .int mnd, .int mam, .ref mis, .ref mip, .ref msd, .ref mrg, .int 0, .ref mou])), (msc, .inl (G.2 0, 400, .inl sc)), (mip, .inl (G.2 0, 8, .inl fi)), (mrg, .inl (G.2 0, 26, .inl (zrF 26 fg))), (mou, .inl (G.2 0, 16, .inl fo)), (mis, .inl (G.2 3, 8, .inl fz)), (msd, .inl (G.2 3, 3, .inl fs))] H locs := by
          rw [hr26] at hW
          exact hW
        exact loop53 (_ + 1) 0 ls H locs (Nat.zero_le _) (Nat.lt_succ_self _) (lv_sub hl [1, 0] rfl) hW
      · have hr26 : r < 26 := by apply Nat.lt_of_not_le; intro q; exact hf2 (nI_le (a := 26) q (by omega))
        refine lv_aload_n hx hb d_Mo_run_33 rfl (lv_at hl 0 rfl) ?_
        refine Wd.get hx hb hts hown hK hW 0 18 in_Mo w_fl_Mo_34 (by decide) d_Mo_run_34 rfl rfl rfl ?_
        refine lv_iload_n hx hb d_Mo_run_37 rfl (lv_at hl 1 rfl) ?_
        refine lv_iconst (v := 0) hx hb d_Mo_run_38 (by decide) ?_
        refine Wd.iast hx hb hK hW 3 d_Mo_run_39 rfl (vp_in_nI (by omega) (by omega)) (fun H locs hW => ?_)
        have hW : Wd G A s.heap [(h0, .inr (1, [.int 0, .int mty, .ref mtx, .int mpl, .int mth, .int (nI ln), .ref msc, .int mfr, .ref mdr, .int mcm, .int mop, .int mkd, .int mbg, .int mnd, .int mam, .ref mis, .ref mip, .ref msd, .ref mrg, .int mmn, .ref mou])), (msc, .inl (G.2 0, 400, .inl sc)), (mip, .inl (G.2 0, 8, .inl fi)), (mrg, .inl (G.2 0, 26, .inl (upd (zrF r fg) ((nI r).toNatClampNeg) 0))), (mou, .inl (G.2 0, 16, .inl fo)), (mis, .inl (G.2 3, 8, .inl fz)), (msd, .inl (G.2 3, 3, .inl fs))] H locs := hW
        refine lv_iinc (k := 1) (v := nI (r + 1)) (lv' := [(2, .int (nI (r + 1))), (0, .ref h0)]) hx hb d_Mo_run_40 hl rfl (nI_succ r).symm (by decide) rfl (fun ls hl => ?_)
        refine lv_goto (tgt := 27) hx hb d_Mo_run_43 rfl ?_
        have hW : Wd G A s.heap [(h0, .inr (1, [.int 0, .int mty, .ref mtx, .int mpl, .int mth, .int (nI ln), .ref msc, .int mfr, .ref mdr, .int mcm, .int mop, .int mkd, .int mbg, .int mnd, .int mam, .ref mis, .ref mip, .ref msd, .ref mrg, .int mmn, .ref mou])), (msc, .inl (G.2 0, 400, .inl sc)), (mip, .inl (G.2 0, 8, .inl fi)), (mrg, .inl (G.2 0, 26, .inl (zrF (r + 1) fg))), (mou, .inl (G.2 0, 16, .inl fo)), (mis, .inl (G.2 3, 8, .inl fz)), (msd, .inl (G.2 3, 3, .inl fs))] H locs := by
          rw [← zrF_s r fg (by omega)]
          exact hW
        exact ih27 (r + 1) ls H locs (by omega) (by omega) (lv_sub hl [1, 0] rfl) hW
  exact loop27 (_ + 1) 0 ls H locs (Nat.zero_le _) (Nat.lt_succ_self _) (lv_sub hl [1, 0] rfl) hW

abbrev rm_Mo_runN : Room := { frames := 2, cells := 0, slots := 0, locals := 43 }
set_option maxHeartbeats 4000000 in
set_option maxRecDepth 100000 in
theorem c_Mo_runN (l : Launch) (G : Gt) (h0 : Nat) (mcd : Int32) (mty : Int32) (mtx : Nat) (mpl : Int32) (mth : Int32) (msc : Nat) (mfr : Int32) (mdr : Nat) (mcm : Int32) (mop : Int32) (mkd : Int32) (mbg : Int32) (mnd : Int32) (mam : Int32) (mis : Nat) (mip : Nat) (msd : Nat) (mrg : Nat) (mmn : Int32) (mou : Nat) (ln : Nat) (sc : Nat → Int32) (fz : Nat → Int32) (fs : Nat → Int32) (x : Int32) (hln : ln ≤ 60) (hv : ∀ j, ¬ sc j < 100 → sc j < 1000 → vp_in (sc j - 100) 8) (hmay : mMay mth fs sc fz ln = 0) : Ct l G y_Mo_run b_Mo_run 3 (some .int) rm_Mo_runN [.ref h0, .int x] [(h0, .inr (1, [.int mcd, .int mty, .ref mtx, .int mpl, .int mth, .int (nI ln), .ref msc, .int mfr, .ref mdr, .int mcm, .int mop, .int mkd, .int mbg, .int mnd, .int mam, .ref mis, .ref mip, .ref msd, .ref mrg, .int mmn, .ref mou])), (msc, .inl (G.2 0, 400, .inl sc)), (mis, .inl (G.2 3, 8, .inl fz)), (msd, .inl (G.2 3, 3, .inl fs))] 0 0 (fun v w' => v = some (.int 0) ∧ w' = [(h0, .inr (1, [.int 1, .int mty, .ref mtx, .int mpl, .int mth, .int (nI ln), .ref msc, .int mfr, .ref mdr, .int mcm, .int mop, .int mkd, .int mbg, .int mnd, .int mam, .ref mis, .ref mip, .ref msd, .ref mrg, .int mmn, .ref mou])), (msc, .inl (G.2 0, 400, .inl sc)), (mis, .inl (G.2 3, 8, .inl fz)), (msd, .inl (G.2 3, 3, .inl fs))]) := by
  refine Ct.of (by decide) (Nat.le_of_ble_eq_true rfl) (fun p e s m args below meth c A ls H locs hx hb hml hr hnl hown hts hnm hK hA hl hW => ?_)
  have hl : lv_has ls 3 [(0, .ref h0), (1, .int x)] := hl
  refine lv_aload_n hx hb d_Mo_run_0 rfl (lv_at hl 0 rfl) ?_
  refine lv_aload_n hx hb d_Mo_run_1 rfl (lv_at hl 0 rfl) ?_
  refine Ct.callV (As := []) (rest := [.ref h0]) hx hb hml hown hts hK hA hl.1 hW (c_Mo_mayRun l G h0 mcd mty mtx mpl mth msc mfr mdr mcm mop mkd mbg mnd mam mis mip msd mrg mmn mou ln sc fz fs hln hv) (cwV 0 hts (good_V w_ml_Mo_165 w_im_Mo_mayRun w_se_Mo_mayRun w_ini_Mo w_code_Mo_mayRun) rfl rfl rfl yd_Mo_mayRun ⟨by decide, by decide⟩) [0, 1, 2, 3] (by decide) rfl (ci := 1) (r := vr_Mo) rfl rfl rfl rfl rfl (Nat.le_of_ble_eq_true rfl) d_Mo_run_2 ⟨by decide, by decide⟩ (fun v w' hp => by obtain ⟨-, rfl⟩ := hp; exact Nat.le_of_ble_eq_true rfl) (fun v w' H locs hp hW => ?_)
  obtain ⟨rfl, rfl⟩ := hp
  have hW : Wd G A s.heap [(h0, .inr (1, [.int mcd, .int mty, .ref mtx, .int mpl, .int mth, .int (nI ln), .ref msc, .int mfr, .ref mdr, .int mcm, .int mop, .int mkd, .int mbg, .int mnd, .int mam, .ref mis, .ref mip, .ref msd, .ref mrg, .int mmn, .ref mou])), (msc, .inl (G.2 0, 400, .inl sc)), (mis, .inl (G.2 3, 8, .inl fz)), (msd, .inl (G.2 3, 3, .inl fs))] H locs := hW
  refine W.eq (g2 := F0 m 5 ls [.int (mMay mth fs sc fz ln), .ref h0]) rfl ?_
  refine lv_if_eq (tgt := 12) hx hb d_Mo_run_5 rfl (fun _ => ?_) (fun hz => absurd hmay hz)
  refine lv_iconst (v := 1) hx hb d_Mo_run_12 (by decide) ?_
  refine Wd.put hx hb hts hown hK hW 0 0 in_Mo t_Mo_ok n_Mo w_fl_Mo_40 (by decide) d_Mo_run_13 rfl rfl rfl rfl rfl (Nat.le_of_ble_eq_true rfl) (fun H locs hW => ?_)
  have hW : Wd G A s.heap [(h0, .inr (1, [.int 1, .int mty, .ref mtx, .int mpl, .int mth, .int (nI ln), .ref msc, .int mfr, .ref mdr, .int mcm, .int mop, .int mkd, .int mbg, .int mnd, .int mam, .ref mis, .ref mip, .ref msd, .ref mrg, .int mmn, .ref mou])), (msc, .inl (G.2 0, 400, .inl sc)), (mis, .inl (G.2 3, 8, .inl fz)), (msd, .inl (G.2 3, 3, .inl fs))] H locs := hW
  refine lv_aload_n hx hb d_Mo_run_16 rfl (lv_at hl 0 rfl) ?_
  refine Wd.get hx hb hts hown hK hW 0 0 in_Mo w_fl_Mo_40 (by decide) d_Mo_run_17 rfl rfl rfl ?_
  refine lv_if_le (tgt := 25) hx hb d_Mo_run_20 rfl (fun hz => absurd hz (by decide)) (fun _ => ?_)
  refine lv_iconst (v := 0) hx hb d_Mo_run_23 (by decide) ?_
  exact Ct.iret hx hb hr hnl hW (by decide) (by decide) d_Mo_run_24 ⟨rfl, rfl⟩

