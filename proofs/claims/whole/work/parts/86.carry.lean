/-! the office carries a script out: whatever comes first, all come to the end -/
theorem rd_nI (c : Int32) : rd c = nI (if c = 0 then 0 else 1) := by
  unfold rd
  split <;> decide
abbrev rm_Office_carryOut : Room := { frames := 6, cells := 0, slots := 0, locals := 134 }
set_option maxHeartbeats 4000000 in
set_option maxRecDepth 100000 in
theorem cb_Office_carryOut (l : Launch) (G : Gt) (h0 : Nat) (kp : Nat → Nat) (h2 : Nat) (ch : Int64) (cf : Nat → Option Nat) (a0 a1 a2 : Nat → Nat) (hcf0 : cf 0 = some (a0 0)) (hcf1 : cf 1 = some (a1 0)) (hcf2 : cf 2 = some (a2 0)) {y : ScT} {n : Nat} {pq : Nat → Int64 × Int64 × Int32} {pd px : Nat → Int32 → Int64} {S0 : SyT} {K : Nat} {k : Nat → Nat} {bn : Nat → Nat → Int32} {bw : Nat → Nat → Int64} {cnt : Nat} {P : PoT}
    (hS : ScOk y n) (hP : PqOk pq pd px) (hQ : SqOk y n pd px S0 K) (hI : IvO y pd px S0 K k bn bw cnt P) (x : Int32) :
    Ct l G y_Office_carryOut b_Office_carryOut 4 none rm_Office_carryOut [.ref h0, .int x] (ofB G h0 kp h2 ch cf P a0 a1 a2 (kSt y pd px S0 k) (rsO y pq bn bw)) 0 0 (fun v w' => v = none ∧ ∃ (ch' : Int64) (bn' : Nat → Nat → Int32) (bw' : Nat → Nat → Int64) (P' : PoT), w' = ofB G h0 kp h2 ch' cf P' a0 a1 a2 (kSt y pd px S0 (fun _ => K)) (rsO y pq bn' bw')) := by
  have hC : as_C K (wtN (sF y pd px) S0) (snN (sF y pd px) S0) := seq_C (kd := y.1) (tg := y.2.1) (fi := y.2.2.1) (se := y.2.2.2.1) (th := y.2.2.2.2.1) (pd := pd) (px := px) hQ.1 hQ.2.2.2.2.2.2.1
  have hKn := hQ.2.2.2.2.1
  have hn := hS.2.1
  refine Ct.of (by decide) (Nat.le_of_ble_eq_true rfl) (fun p e s m args below meth c A ls H locs hx hb hml hr hnl hown hts hnm hK hA hl hW => ?_)
  have hl : lv_has ls 4 [(0, .ref h0), (1, .int x)] := hl
  have hW : Wd G A s.heap (bj [[(h0, .inr (5, [.ref (kp 0), .ref h2, .long ch]))], [(h2, .inl (G.2 4, 3, .inr (.inr (.inr (.inr cf)))))], poB G kp P, ckF G a0 0 (kSt y pd px S0 k 0) (rsO y pq bn bw 0), ckF G a1 1 (kSt y pd px S0 k 1) (rsO y pq bn bw 1), ckF G a2 2 (kSt y pd px S0 k 2) (rsO y pq bn bw 2)]) H locs := hW
  have few0 := as_few hC hI.2
  have hmu0 : muO K k cnt ≤ 16641 := by unfold muO; omega
  have loop : ∀ (u mv : Nat) (ch : Int64) (k : Nat → Nat) (bn : Nat → Nat → Int32) (bw : Nat → Nat → Int64) (cnt : Nat) (P : PoT) (ls : Array Slot) (H : Heap) (locs : List Loc), IvO y pd px S0 K k bn bw cnt P → muO K k cnt + mv ≤ 16641 → muO K k cnt < u → lv_has ls 4 [(2, .int (nI mv)), (0, .ref h0), (1, .int x)] → Wd G A s.heap (bj [[(h0, .inr (5, [.ref (kp 0), .ref h2, .long ch]))], [(h2, .inl (G.2 4, 3, .inr (.inr (.inr (.inr cf)))))], poB G kp P, ckF G a0 0 (kSt y pd px S0 k 0) (rsO y pq bn bw 0), ckF G a1 1 (kSt y pd px S0 k 1) (rsO y pq bn bw 1), ckF G a2 2 (kSt y pd px S0 k 2) (rsO y pq bn bw 2)]) H locs → W p l e rm_Office_carryOut s m args below meth c H locs 0 0 (MQ below (Qcc G (fun v w' => v = none ∧ ∃ (ch' : Int64) (bn' : Nat → Nat → Int32) (bw' : Nat → Nat → Int64) (P' : PoT), w' = ofB G h0 kp h2 ch' cf P' a0 a1 a2 (kSt y pd px S0 (fun _ => K)) (rsO y pq bn' bw')) A) args s 0 0 A) (F0 m 8 ls []) := by
    intro u
    induction u with
    | zero => intro mv ch k bn bw cnt P ls H locs hI hb1 hu; exact absurd hu (Nat.not_lt_zero _)
    | succ u ih =>
      intro mv ch k bn bw cnt P ls H locs hI hb1 hu hl hW
      have few := as_few hC hI.2
      have hr3 : ∀ i, rdO y pq pd px S0 k bn bw i ≤ 1 := fun i => by unfold rdO; split <;> omega
      have hr0 := hr3 0
      have hr1 := hr3 1
      have hr2 := hr3 2
      have hch : P.1 + (rd (cnS (kSt y pd px S0 k 0) (rsO y pq bn bw 0)) + rd (cnS (kSt y pd px S0 k 1) (rsO y pq bn bw 1)) + rd (cnS (kSt y pd px S0 k 2) (rsO y pq bn bw 2))) = nI (cnt + (rdO y pq pd px S0 k bn bw 0 + rdO y pq pd px S0 k bn bw 1 + rdO y pq pd px S0 k bn bw 2)) := by
        rw [hI.1, rd_nI, rd_nI, rd_nI, nI_add, nI_add, nI_add]
        rfl
      refine lv_iload_n hx hb d_Office_carryOut_8 rfl (lv_at hl 0 rfl) ?_
      refine lv_ldc (v := 1000000) hx hb hown (hts _ w_k_Office_42) d_Office_carryOut_9 ?_
      refine lv_icmp_ge (tgt := 47) hx hb d_Office_carryOut_11 rfl (fun ht1 => ?_) (fun hf2 => ?_)
      · exact absurd ht1 (nI_ge (b := 1000000) (by omega) (by decide))
      · refine lv_aload_n hx hb d_Office_carryOut_14 rfl (lv_at hl 1 rfl) ?_
        refine Wd.get hx hb hts hown hK hW 0 0 in_Office w_fl_Office_12 (by decide) d_Office_carryOut_15 rfl rfl rfl ?_
        refine Ct.callVB (As := []) (rest := []) (wr := bj [[(h0, .inr (5, [.ref (kp 0), .ref h2, .long ch]))], [(h2, .inl (G.2 4, 3, .inr (.inr (.inr (.inr cf)))))], ckF G a0 0 (kSt y pd px S0 k 0) (rsO y pq bn bw 0), ckF G a1 1 (kSt y pd px S0 k 1) (rsO y pq bn bw 1), ckF G a2 2 (kSt y pd px S0 k 2) (rsO y pq bn bw 2)]) hx hb hml hown hts hK hA hl.1 hW (bl_pick (bs := [poB G kp P]) (rs := [[(h0, .inr (5, [.ref (kp 0), .ref h2, .long ch]))], [(h2, .inl (G.2 4, 3, .inr (.inr (.inr (.inr cf)))))], ckF G a0 0 (kSt y pd px S0 k 0) (rsO y pq bn bw 0), ckF G a1 1 (kSt y pd px S0 k 1) (rsO y pq bn bw 1), ckF G a2 2 (kSt y pd px S0 k 2) (rsO y pq bn bw 2)]) (Bs := [[(h0, .inr (5, [.ref (kp 0), .ref h2, .long ch]))], [(h2, .inl (G.2 4, 3, .inr (.inr (.inr (.inr cf)))))], poB G kp P, ckF G a0 0 (kSt y pd px S0 k 0) (rsO y pq bn bw 0), ckF G a1 1 (kSt y pd px S0 k 1) (rsO y pq bn bw 1), ckF G a2 2 (kSt y pd px S0 k 2) (rsO y pq bn bw 2)]) [2, 0, 1, 3, 4, 5] (show ([2, 0, 1, 3, 4, 5] : List Nat).Perm (List.range 6) by decide) rfl) (cb_Post_size l G kp P ) (cwV 0 hts (good_V w_ml_Office_43 w_im_Post_size w_se_Post_size w_ini_Post w_code_Post_size) rfl rfl rfl yd_Post_size ⟨by decide, by decide⟩) (ci := 8) (r := vr_Post) rfl rfl rfl rfl rfl (Nat.le_of_ble_eq_true rfl) d_Office_carryOut_18 ⟨by decide, by decide⟩ (fun v w' hp => by obtain ⟨-, rfl⟩ := hp; exact Nat.le_of_ble_eq_true rfl) (fun v w' H locs hp hW => ?_)
        obtain ⟨rfl, rfl⟩ := hp
        have hW := Wd.blk (rs := [[(h0, .inr (5, [.ref (kp 0), .ref h2, .long ch]))], [(h2, .inl (G.2 4, 3, .inr (.inr (.inr (.inr cf)))))], ckF G a0 0 (kSt y pd px S0 k 0) (rsO y pq bn bw 0), ckF G a1 1 (kSt y pd px S0 k 1) (rsO y pq bn bw 1), ckF G a2 2 (kSt y pd px S0 k 2) (rsO y pq bn bw 2)]) (bs := [poB G kp P]) (Bs := [[(h0, .inr (5, [.ref (kp 0), .ref h2, .long ch]))], [(h2, .inl (G.2 4, 3, .inr (.inr (.inr (.inr cf)))))], poB G kp P, ckF G a0 0 (kSt y pd px S0 k 0) (rsO y pq bn bw 0), ckF G a1 1 (kSt y pd px S0 k 1) (rsO y pq bn bw 1), ckF G a2 2 (kSt y pd px S0 k 2) (rsO y pq bn bw 2)]) hW [0, 1, 5, 2, 3, 4] (show ([0, 1, 5, 2, 3, 4] : List Nat).Perm (List.range 6) by decide) rfl
        refine W.eq (g2 := F0 m 21 ls [.int P.1]) rfl ?_
        refine lv_aload_n hx hb d_Office_carryOut_21 rfl (lv_at hl 1 rfl) ?_
        refine Ct.callVB (As := []) (rest := [.int P.1]) (wr := bj [poB G kp P]) hx hb hml hown hts hK hA hl.1 hW (bl_pick (bs := [[(h0, .inr (5, [.ref (kp 0), .ref h2, .long ch]))], [(h2, .inl (G.2 4, 3, .inr (.inr (.inr (.inr cf)))))], ckF G a0 0 (kSt y pd px S0 k 0) (rsO y pq bn bw 0), ckF G a1 1 (kSt y pd px S0 k 1) (rsO y pq bn bw 1), ckF G a2 2 (kSt y pd px S0 k 2) (rsO y pq bn bw 2)]) (rs := [poB G kp P]) (Bs := [[(h0, .inr (5, [.ref (kp 0), .ref h2, .long ch]))], [(h2, .inl (G.2 4, 3, .inr (.inr (.inr (.inr cf)))))], poB G kp P, ckF G a0 0 (kSt y pd px S0 k 0) (rsO y pq bn bw 0), ckF G a1 1 (kSt y pd px S0 k 1) (rsO y pq bn bw 1), ckF G a2 2 (kSt y pd px S0 k 2) (rsO y pq bn bw 2)]) [0, 1, 3, 4, 5, 2] (show ([0, 1, 3, 4, 5, 2] : List Nat).Perm (List.range 6) by decide) rfl) (cb_Office_countReady l G h0 kp h2 ch cf a0 a1 a2 (kSt y pd px S0 k 0) (kSt y pd px S0 k 1) (kSt y pd px S0 k 2) (rsO y pq bn bw 0) (rsO y pq bn bw 1) (rsO y pq bn bw 2) hcf0 hcf1 hcf2) (cwV 0 hts (good_V w_ml_Office_47 w_im_Office_countReady w_se_Office_countReady w_ini_Office w_code_Office_countReady) rfl rfl rfl yd_Office_countReady ⟨by decide, by decide⟩) (ci := 5) (r := vr_Office) rfl rfl rfl rfl rfl (Nat.le_of_ble_eq_true rfl) d_Office_carryOut_22 ⟨by decide, by decide⟩ (fun v w' hp => by obtain ⟨-, rfl⟩ := hp; exact Nat.le_of_ble_eq_true rfl) (fun v w' H locs hp hW => ?_)
        obtain ⟨rfl, rfl⟩ := hp
        have hW := Wd.blk (rs := [poB G kp P]) (bs := [[(h0, .inr (5, [.ref (kp 0), .ref h2, .long ch]))], [(h2, .inl (G.2 4, 3, .inr (.inr (.inr (.inr cf)))))], ckF G a0 0 (kSt y pd px S0 k 0) (rsO y pq bn bw 0), ckF G a1 1 (kSt y pd px S0 k 1) (rsO y pq bn bw 1), ckF G a2 2 (kSt y pd px S0 k 2) (rsO y pq bn bw 2)]) (Bs := [[(h0, .inr (5, [.ref (kp 0), .ref h2, .long ch]))], [(h2, .inl (G.2 4, 3, .inr (.inr (.inr (.inr cf)))))], poB G kp P, ckF G a0 0 (kSt y pd px S0 k 0) (rsO y pq bn bw 0), ckF G a1 1 (kSt y pd px S0 k 1) (rsO y pq bn bw 1), ckF G a2 2 (kSt y pd px S0 k 2) (rsO y pq bn bw 2)]) hW [1, 2, 0, 3, 4, 5] (show ([1, 2, 0, 3, 4, 5] : List Nat).Perm (List.range 6) by decide) rfl
        refine W.eq (g2 := F0 m 25 ls [.int (rd (cnS (kSt y pd px S0 k 0) (rsO y pq bn bw 0)) + rd (cnS (kSt y pd px S0 k 1) (rsO y pq bn bw 1)) + rd (cnS (kSt y pd px S0 k 2) (rsO y pq bn bw 2))), .int P.1]) rfl ?_
        refine lv_iadd hx hb d_Office_carryOut_25 ?_
        refine lv_topi (fun cz ez => ?_)
        obtain rfl : cz = nI (cnt + (rdO y pq pd px S0 k bn bw 0 + rdO y pq pd px S0 k bn bw 1 + rdO y pq pd px S0 k bn bw 2)) := ez.trans hch
        refine lv_istore_n (lv' := [(3, .int (nI (cnt + (rdO y pq pd px S0 k bn bw 0 + rdO y pq pd px S0 k bn bw 1 + rdO y pq pd px S0 k bn bw 2)))), (2, .int (nI mv)), (0, .ref h0), (1, .int x)]) hx hb d_Office_carryOut_26 rfl hl (by decide) rfl (fun ls hl => ?_)
        refine lv_iload_n hx hb d_Office_carryOut_27 rfl (lv_at hl 0 rfl) ?_
        refine lv_if_gt (tgt := 32) hx hb d_Office_carryOut_28 rfl (fun ht3 => ?_) (fun hf4 => ?_)
        · have hCp : 0 < (cnt + (rdO y pq pd px S0 k bn bw 0 + rdO y pq pd px S0 k bn bw 1 + rdO y pq pd px S0 k bn bw 2)) := by apply Nat.pos_of_ne_zero; intro q; rw [q] at ht3; exact absurd ht3 (by decide)
          have hCne : ¬ nI (cnt + (rdO y pq pd px S0 k bn bw 0 + rdO y pq pd px S0 k bn bw 1 + rdO y pq pd px S0 k bn bw 2)) = 0 := nI_ne0 hCp (by omega)
          refine lv_aload_n hx hb d_Office_carryOut_32 rfl (lv_at hl 2 rfl) ?_
          refine lv_aload_n hx hb d_Office_carryOut_33 rfl (lv_at hl 2 rfl) ?_
          refine lv_iload_n hx hb d_Office_carryOut_34 rfl (lv_at hl 0 rfl) ?_
          refine Ct.callVB (As := [.int (nI (cnt + (rdO y pq pd px S0 k bn bw 0 + rdO y pq pd px S0 k bn bw 1 + rdO y pq pd px S0 k bn bw 2)))]) (rest := [.ref h0]) (wr := bj [[(h2, .inl (G.2 4, 3, .inr (.inr (.inr (.inr cf)))))], poB G kp P, ckF G a0 0 (kSt y pd px S0 k 0) (rsO y pq bn bw 0), ckF G a1 1 (kSt y pd px S0 k 1) (rsO y pq bn bw 1), ckF G a2 2 (kSt y pd px S0 k 2) (rsO y pq bn bw 2)]) hx hb hml hown hts hK hA hl.1 hW (bl_pick (bs := [[(h0, .inr (5, [.ref (kp 0), .ref h2, .long ch]))]]) (rs := [[(h2, .inl (G.2 4, 3, .inr (.inr (.inr (.inr cf)))))], poB G kp P, ckF G a0 0 (kSt y pd px S0 k 0) (rsO y pq bn bw 0), ckF G a1 1 (kSt y pd px S0 k 1) (rsO y pq bn bw 1), ckF G a2 2 (kSt y pd px S0 k 2) (rsO y pq bn bw 2)]) (Bs := [[(h0, .inr (5, [.ref (kp 0), .ref h2, .long ch]))], [(h2, .inl (G.2 4, 3, .inr (.inr (.inr (.inr cf)))))], poB G kp P, ckF G a0 0 (kSt y pd px S0 k 0) (rsO y pq bn bw 0), ckF G a1 1 (kSt y pd px S0 k 1) (rsO y pq bn bw 1), ckF G a2 2 (kSt y pd px S0 k 2) (rsO y pq bn bw 2)]) [0, 1, 2, 3, 4, 5] (show ([0, 1, 2, 3, 4, 5] : List Nat).Perm (List.range 6) by decide) rfl) (c_Office_draw l G h0 (kp 0) h2 ch (nI (cnt + (rdO y pq pd px S0 k bn bw 0 + rdO y pq pd px S0 k bn bw 1 + rdO y pq pd px S0 k bn bw 2))) hCne) (cwV 1 hts (good_V w_ml_Office_50 w_im_Office_draw w_se_Office_draw w_ini_Office w_code_Office_draw) rfl rfl rfl yd_Office_draw ⟨by decide, by decide⟩) (ci := 5) (r := vr_Office) rfl rfl rfl rfl rfl (Nat.le_of_ble_eq_true rfl) d_Office_carryOut_35 ⟨by decide, by decide⟩ (fun v w' hp => by obtain ⟨-, rfl⟩ := hp; exact Nat.le_of_ble_eq_true rfl) (fun v w' H locs hp hW => ?_)
          obtain ⟨rfl, rfl⟩ := hp
          have hW := Wd.blk (rs := [[(h2, .inl (G.2 4, 3, .inr (.inr (.inr (.inr cf)))))], poB G kp P, ckF G a0 0 (kSt y pd px S0 k 0) (rsO y pq bn bw 0), ckF G a1 1 (kSt y pd px S0 k 1) (rsO y pq bn bw 1), ckF G a2 2 (kSt y pd px S0 k 2) (rsO y pq bn bw 2)]) (bs := [[(h0, .inr (5, [.ref (kp 0), .ref h2, .long ((ch * 6364136223846793005) + 1442695040888963407)]))]]) (Bs := [[(h0, .inr (5, [.ref (kp 0), .ref h2, .long ((ch * 6364136223846793005) + 1442695040888963407)]))], [(h2, .inl (G.2 4, 3, .inr (.inr (.inr (.inr cf)))))], poB G kp P, ckF G a0 0 (kSt y pd px S0 k 0) (rsO y pq bn bw 0), ckF G a1 1 (kSt y pd px S0 k 1) (rsO y pq bn bw 1), ckF G a2 2 (kSt y pd px S0 k 2) (rsO y pq bn bw 2)]) hW [5, 0, 1, 2, 3, 4] (show ([5, 0, 1, 2, 3, 4] : List Nat).Perm (List.range 6) by decide) rfl
          refine W.eq (g2 := F0 m 38 ls [.int (o_JMath_floorMod_r (((((ch * 6364136223846793005) + 1442695040888963407).toUInt64 >>> ((32 : Int32).toInt64.toUInt64 &&& Int64.toUInt64 63)).toInt64).toInt32) (nI (cnt + (rdO y pq pd px S0 k bn bw 0 + rdO y pq pd px S0 k bn bw 1 + rdO y pq pd px S0 k bn bw 2)))), .ref h0]) rfl ?_
          obtain ⟨X, hXl, eX⟩ := fm_in ((((((ch * 6364136223846793005) + 1442695040888963407).toUInt64 >>> ((32 : Int32).toInt64.toUInt64 &&& Int64.toUInt64 63)).toInt64).toInt32)) (cnt + (rdO y pq pd px S0 k bn bw 0 + rdO y pq pd px S0 k bn bw 1 + rdO y pq pd px S0 k bn bw 2)) hCp (by omega)
          refine lv_topi (fun cz ez => ?_)
          obtain rfl : cz = nI X := ez.trans eX
          refine Ct.callVB (As := [.int (nI X)]) (rest := []) (wr := bj []) hx hb hml hown hts hK hA hl.1 hW (bl_pick (bs := [[(h0, .inr (5, [.ref (kp 0), .ref h2, .long ((ch * 6364136223846793005) + 1442695040888963407)]))], [(h2, .inl (G.2 4, 3, .inr (.inr (.inr (.inr cf)))))], poB G kp P, ckF G a0 0 (kSt y pd px S0 k 0) (rsO y pq bn bw 0), ckF G a1 1 (kSt y pd px S0 k 1) (rsO y pq bn bw 1), ckF G a2 2 (kSt y pd px S0 k 2) (rsO y pq bn bw 2)]) (rs := []) (Bs := [[(h0, .inr (5, [.ref (kp 0), .ref h2, .long ((ch * 6364136223846793005) + 1442695040888963407)]))], [(h2, .inl (G.2 4, 3, .inr (.inr (.inr (.inr cf)))))], poB G kp P, ckF G a0 0 (kSt y pd px S0 k 0) (rsO y pq bn bw 0), ckF G a1 1 (kSt y pd px S0 k 1) (rsO y pq bn bw 1), ckF G a2 2 (kSt y pd px S0 k 2) (rsO y pq bn bw 2)]) [0, 1, 2, 3, 4, 5] (show ([0, 1, 2, 3, 4, 5] : List Nat).Perm (List.range 6) by decide) rfl) (mv_inv l G h0 kp h2 ((ch * 6364136223846793005) + 1442695040888963407) cf a0 a1 a2 hcf0 hcf1 hcf2 hS hP hQ hI X hXl) (cwV 1 hts (good_V w_ml_Office_54 w_im_Office_makeMove w_se_Office_makeMove w_ini_Office w_code_Office_makeMove) rfl rfl rfl yd_Office_makeMove ⟨by decide, by decide⟩) (ci := 5) (r := vr_Office) rfl rfl rfl rfl rfl (Nat.le_of_ble_eq_true rfl) d_Office_carryOut_38 ⟨by decide, by decide⟩ (fun v w' hp => by obtain ⟨-, k', bn', bw', cnt', P', -, -, rfl⟩ := hp; exact Nat.le_of_ble_eq_true rfl) (fun v w' H locs hp hW => ?_)
          obtain ⟨rfl, k', bn', bw', cnt', P', hI', hmu, rfl⟩ := hp
          have hW : Wd G A s.heap (bj [[(h0, .inr (5, [.ref (kp 0), .ref h2, .long ((ch * 6364136223846793005) + 1442695040888963407)]))], [(h2, .inl (G.2 4, 3, .inr (.inr (.inr (.inr cf)))))], poB G kp P', ckF G a0 0 (kSt y pd px S0 k' 0) (rsO y pq bn' bw' 0), ckF G a1 1 (kSt y pd px S0 k' 1) (rsO y pq bn' bw' 1), ckF G a2 2 (kSt y pd px S0 k' 2) (rsO y pq bn' bw' 2)]) H locs := hW
          refine W.eq (g2 := F0 m 41 ls []) rfl ?_
          refine lv_iinc (k := 1) (v := nI (mv + 1)) (lv' := [(2, .int (nI (mv + 1))), (3, .int (nI (cnt + (rdO y pq pd px S0 k bn bw 0 + rdO y pq pd px S0 k bn bw 1 + rdO y pq pd px S0 k bn bw 2)))), (0, .ref h0), (1, .int x)]) hx hb d_Office_carryOut_41 hl rfl (nI_succ mv).symm (by decide) rfl (fun ls hl => ?_)
          refine lv_goto (tgt := 8) hx hb d_Office_carryOut_44 rfl ?_
          exact ih (mv + 1) ((ch * 6364136223846793005) + 1442695040888963407) k' bn' bw' cnt' P' ls H locs hI' (by omega) (by omega) (lv_sub hl [0, 2, 3] rfl) hW
        · have hC0 : (cnt + (rdO y pq pd px S0 k bn bw 0 + rdO y pq pd px S0 k bn bw 1 + rdO y pq pd px S0 k bn bw 2)) = 0 := by apply Nat.eq_zero_of_le_zero; apply Nat.le_of_not_lt; intro q; exact hf4 (nI_lt (a := 0) q (by omega))
          have z0 : cnt = 0 := by omega
          have r0 : rdO y pq pd px S0 k bn bw 0 = 0 := by omega
          have r1 : rdO y pq pd px S0 k bn bw 1 = 0 := by omega
          have r2 : rdO y pq pd px S0 k bn bw 2 = 0 := by omega
          subst z0
          have hno : ∀ i, i < 3 → k i < K → wtN (sF y pd px) S0 (k i) = true ∧ bn i (snN (sF y pd px) S0 (k i) % 8) ≠ nI (snN (sF y pd px) S0 (k i)) := fun i hi hki => by
            have hz : cnS (kSt y pd px S0 k i) (rsO y pq bn bw i) = 0 := by
              have : rdO y pq pd px S0 k bn bw i = 0 := i3 (P := fun i => rdO y pq pd px S0 k bn bw i = 0) hi r0 r1 r2
              apply Classical.byContradiction
              intro q
              unfold rdO at this
              rw [if_neg q] at this
              cases this
            apply Classical.byContradiction
            intro q
            refine (rdy_iff (i := i) hS hQ (Nat.le_of_lt hki) (bn i) (bw i) (pq i)).mpr ⟨hki, fun hw => ?_⟩ hz
            apply Classical.byContradiction
            intro q2
            exact q ⟨hw, q2⟩
          obtain ⟨e0, e1, e2⟩ := as_end hI.2 hno
          have hW : Wd G A s.heap (ofB G h0 kp h2 ch cf P a0 a1 a2 (kSt y pd px S0 k) (rsO y pq bn bw)) H locs := hW
          have eW : ofB G h0 kp h2 ch cf P a0 a1 a2 (kSt y pd px S0 k) (rsO y pq bn bw) = ofB G h0 kp h2 ch cf P a0 a1 a2 (kSt y pd px S0 (fun _ => K)) (rsO y pq bn bw) := by
            unfold ofB kSt
            rw [e0, e1, e2]
          exact Ct.vret hx hb hr hnl hW (by decide) (by decide) d_Office_carryOut_31 ⟨rfl, ch, bn, bw, P, eW⟩
  refine lv_aload_n hx hb d_Office_carryOut_0 rfl (lv_at hl 0 rfl) ?_
  refine lv_iload_n hx hb d_Office_carryOut_1 rfl (lv_at hl 1 rfl) ?_
  refine lv_i2l (v := x.toInt64) hx hb d_Office_carryOut_2 rfl ?_
  refine Wd.put (v := .long x.toInt64) hx hb hts hown hK hW 0 2 in_Office t_Office_ok n_Office w_fl_Office_38 (by decide) d_Office_carryOut_3 rfl rfl rfl rfl rfl (Nat.le_of_ble_eq_true rfl) (fun H locs hW => ?_)
  have hW : Wd G A s.heap (bj [[(h0, .inr (5, [.ref (kp 0), .ref h2, .long x.toInt64]))], [(h2, .inl (G.2 4, 3, .inr (.inr (.inr (.inr cf)))))], poB G kp P, ckF G a0 0 (kSt y pd px S0 k 0) (rsO y pq bn bw 0), ckF G a1 1 (kSt y pd px S0 k 1) (rsO y pq bn bw 1), ckF G a2 2 (kSt y pd px S0 k 2) (rsO y pq bn bw 2)]) H locs := hW
  refine lv_iconst (v := 0) hx hb d_Office_carryOut_6 (by decide) ?_
  refine lv_istore_n (lv' := [(2, .int 0), (0, .ref h0), (1, .int x)]) hx hb d_Office_carryOut_7 rfl hl (by decide) rfl (fun ls hl => ?_)
  exact loop (_ + 1) 0 x.toInt64 k bn bw cnt P ls H locs hI (by omega) (Nat.lt_succ_self _) (lv_sub hl [0, 1, 2] rfl) hW
