/-! the reader: what stands at a token -/
def isT (kd : Nat → Int32) (x y : Int32) : Int32 := if kd x.toNatClampNeg = y then 1 else 0
def isS (kd vl : Nat → Int32) (x y : Int32) : Int32 := if kd x.toNatClampNeg = 3 then (if vl x.toNatClampNeg = y then 1 else 0) else 0
def tkA (kd vl : Nat → Int32) (x y : Int32) : Int32 := if isS kd vl x y = 0 then x else x + 1
def kOS (kd vl : Nat → Int32) (x : Int32) : Int32 := if isS kd vl x 43 = 0 then (if isS kd vl x 45 = 0 then (if isS kd vl x 42 = 0 then (if isS kd vl x 60 = 0 then 0 else 4) else 3) else 2) else 1
def eRF (kd vl : Nat → Int32) (x y : Int32) : Int32 := if isT kd x 1 = 0 then 0 else if vl x.toNatClampNeg - y < 1 then 0 else if 4 < vl x.toNatClampNeg - y then 0 else 1
def InT (kd : Nat → Int32) (x : Int32) : Prop := ∃ k N : Nat, x = nI k ∧ k ≤ N ∧ N ≤ 120 ∧ kd N = 0
theorem InT.in {kd : Nat → Int32} {x : Int32} (h : InT kd x) : vp_in x 121 := by
  obtain ⟨k, N, rfl, h1, h2, -⟩ := h
  exact vp_in_nI (by omega) (by omega)
theorem InT.nx {kd : Nat → Int32} {x : Int32} (h : InT kd x) (hk : ¬ kd x.toNatClampNeg = 0) : InT kd (x + 1) := by
  obtain ⟨k, N, rfl, h1, h2, h3⟩ := h
  rw [nI_clamp (by omega)] at hk
  have : k ≠ N := fun e => hk (e ▸ h3)
  exact ⟨k + 1, N, by rw [nI_succ], by omega, h2, h3⟩
theorem isT_1 {kd : Nat → Int32} {x y : Int32} (h : ¬ isT kd x y = 0) : kd x.toNatClampNeg = y := by
  unfold isT at h
  split at h
  · assumption
  · exact absurd rfl h
theorem isS_1 {kd vl : Nat → Int32} {x y : Int32} (h : ¬ isS kd vl x y = 0) : kd x.toNatClampNeg = 3 ∧ vl x.toNatClampNeg = y := by
  unfold isS at h
  split at h
  · split at h
    · exact ⟨by assumption, by assumption⟩
    · exact absurd rfl h
  · exact absurd rfl h
theorem InT.is {kd : Nat → Int32} {x y : Int32} (h : InT kd x) (hk : ¬ isT kd x y = 0) (hy : ¬ y = 0) : InT kd (x + 1) := h.nx (by rw [isT_1 hk]; exact hy)
theorem InT.sg {kd vl : Nat → Int32} {x y : Int32} (h : InT kd x) (hk : ¬ isS kd vl x y = 0) : InT kd (x + 1) := h.nx (by rw [(isS_1 hk).1]; decide)
theorem InT.ta {kd vl : Nat → Int32} {x y : Int32} (h : InT kd x) : InT kd (tkA kd vl x y) := by
  unfold tkA
  split
  · exact h
  · exact h.sg (by assumption)
theorem InT.ko {kd vl : Nat → Int32} {x : Int32} (h : InT kd x) (hk : ¬ kOS kd vl x = 0) : InT kd (x + 1) := by
  unfold kOS at hk
  split at hk
  · split at hk
    · split at hk
      · split at hk
        · exact absurd rfl hk
        · exact h.sg (by assumption)
      · exact h.sg (by assumption)
    · exact h.sg (by assumption)
  · exact h.sg (by assumption)
theorem nb01 {v : Int32} (h : v = 0 ∨ v = 1) : narrow .boolean (.int v) = .int v := by
  rcases h with rfl | rfl <;> decide
theorem isT_b (kd : Nat → Int32) (x y : Int32) : isT kd x y = 0 ∨ isT kd x y = 1 := by
  unfold isT
  split
  · exact Or.inr rfl
  · exact Or.inl rfl
theorem isS_b (kd vl : Nat → Int32) (x y : Int32) : isS kd vl x y = 0 ∨ isS kd vl x y = 1 := by
  unfold isS
  split
  · split
    · exact Or.inr rfl
    · exact Or.inl rfl
  · exact Or.inl rfl
/-- registers' letters -/
def RgT (kd vl : Nat → Int32) : Prop := ∀ j, kd j = 1 → vp_in (vl j) 26
theorem row_26 : ∀ a : Nat, a < 26 → ∀ z : Nat, z < 26 → z < a → nI z - nI a < 1 := by decide +kernel
theorem row_ok {kd vl : Nat → Int32} {x1 x2 : Int32} (hr : RgT kd vl) (h1 : ¬ isT kd x1 1 = 0) (h2 : ¬ eRF kd vl x2 (vl x1.toNatClampNeg) = 0) : vl x1.toNatClampNeg = nI (vl x1.toNatClampNeg).toNatClampNeg ∧ vl x2.toNatClampNeg = nI (vl x2.toNatClampNeg).toNatClampNeg ∧ (vl x1.toNatClampNeg).toNatClampNeg ≤ (vl x2.toNatClampNeg).toNatClampNeg ∧ (vl x2.toNatClampNeg).toNatClampNeg < 1000 := by
  have g1 := hr _ (isT_1 h1)
  unfold eRF at h2
  split at h2
  · exact absurd rfl h2
  · next q =>
    have g2 := hr _ (isT_1 q)
    split at h2
    · exact absurd rfl h2
    · next q2 =>
      obtain ⟨a, ha, ea⟩ := nI_of (fun q => g1 (Or.inl q))
      obtain ⟨z, hz, ez⟩ := nI_of (fun q => g2 (Or.inl q))
      have h26a : (vl x1.toNatClampNeg).toNatClampNeg < 26 := Nat.lt_of_not_le (fun q => g1 (Or.inr q))
      have h26z : (vl x2.toNatClampNeg).toNatClampNeg < 26 := Nat.lt_of_not_le (fun q => g2 (Or.inr q))
      rw [ea] at q2 h26a ⊢
      rw [ez] at q2 h26z ⊢
      rw [nI_clamp ha] at h26a ⊢
      rw [nI_clamp hz] at h26z ⊢
      refine ⟨rfl, rfl, ?_, by omega⟩
      apply Nat.le_of_not_lt
      intro hlt
      apply q2
      exact row_26 a h26a z h26z hlt

abbrev rm_Reader_is : Room := { frames := 0, cells := 0, slots := 0, locals := 0 }
set_option maxHeartbeats 4000000 in
set_option maxRecDepth 100000 in
theorem c_Reader_is (l : Launch) (G : Gt) (h0 : Nat) (ht : Nat) (d : Nat → Nat) (htt : Nat) (htk : Nat) (htb : Nat) (htv : Nat) (ct : Int32) (kd : Nat → Int32) (x : Int32) (y : Int32) (hx0 : vp_in x 121) : Ct l G y_Reader_is b_Reader_is 2 (some .boolean) rm_Reader_is [.ref h0, .int y] (bj [[(h0, .inr (9, [.ref ht, .ref (d 0), .int x]))], [(ht, .inr (11, [.ref htt, .ref htk, .ref htb, .ref htv, .int ct]))], [(htk, .inl (G.2 0, 121, .inl kd))]]) 0 0 (fun v w' => v = some (.int (isT kd x y)) ∧ w' = (bj [[(h0, .inr (9, [.ref ht, .ref (d 0), .int x]))], [(ht, .inr (11, [.ref htt, .ref htk, .ref htb, .ref htv, .int ct]))], [(htk, .inl (G.2 0, 121, .inl kd))]])) := by
  refine Ct.of (by decide) (Nat.le_of_ble_eq_true rfl) (fun p e s m args below meth c A ls H locs hx hb hml hr hnl hown hts hnm hK hA hl hW => ?_)
  have hl : lv_has ls 2 [(0, .ref h0), (1, .int y)] := hl
  refine lv_aload_n hx hb d_Reader_is_0 rfl (lv_at hl 0 rfl) ?_
  refine Wd.get hx hb hts hown hK hW 0 0 in_Reader w_fl_Reader_12 (by decide) d_Reader_is_1 rfl rfl rfl ?_
  refine Wd.get hx hb hts hown hK hW 1 1 in_Tokens w_fl_Reader_52 (by decide) d_Reader_is_4 rfl rfl rfl ?_
  refine lv_aload_n hx hb d_Reader_is_7 rfl (lv_at hl 0 rfl) ?_
  refine Wd.get hx hb hts hown hK hW 0 2 in_Reader w_fl_Reader_29 (by decide) d_Reader_is_8 rfl rfl rfl ?_
  refine Wd.iald hx hb hK hW 2 d_Reader_is_11 rfl hx0 ?_
  refine lv_iload_n hx hb d_Reader_is_12 rfl (lv_at hl 1 rfl) ?_
  refine lv_icmp_ne (tgt := 20) hx hb d_Reader_is_13 rfl (fun ht1 => ?_) (fun hf2 => ?_)
  · refine lv_iconst (v := 0) hx hb d_Reader_is_20 (by decide) ?_
    exact Ct.zret hx hb hr hnl hW (by decide) (by decide) d_Reader_is_21 (by decide) ⟨by first | rfl | (simp only [isT, if_neg ht1]; done) | (simp only [isT, if_neg ht1]; rfl), by first | rfl | (simp only [isT, if_neg ht1]; done) | (simp only [isT, if_neg ht1]; rfl)⟩
  · refine lv_iconst (v := 1) hx hb d_Reader_is_16 (by decide) ?_
    refine lv_goto (tgt := 21) hx hb d_Reader_is_17 rfl ?_
    exact Ct.zret hx hb hr hnl hW (by decide) (by decide) d_Reader_is_21 (by decide) ⟨by first | rfl | (simp only [isT, if_pos hf2]; done) | (simp only [isT, if_pos hf2]; rfl), by first | rfl | (simp only [isT, if_pos hf2]; done) | (simp only [isT, if_pos hf2]; rfl)⟩

abbrev rm_Reader_isSign : Room := { frames := 0, cells := 0, slots := 0, locals := 0 }
set_option maxHeartbeats 4000000 in
set_option maxRecDepth 100000 in
theorem c_Reader_isSign (l : Launch) (G : Gt) (h0 : Nat) (ht : Nat) (d : Nat → Nat) (htt : Nat) (htk : Nat) (htb : Nat) (htv : Nat) (ct : Int32) (kd : Nat → Int32) (vl : Nat → Int32) (x : Int32) (y : Int32) (hx0 : vp_in x 121) : Ct l G y_Reader_isSign b_Reader_isSign 2 (some .boolean) rm_Reader_isSign [.ref h0, .int y] (bj [[(h0, .inr (9, [.ref ht, .ref (d 0), .int x]))], [(ht, .inr (11, [.ref htt, .ref htk, .ref htb, .ref htv, .int ct]))], [(htk, .inl (G.2 0, 121, .inl kd))], [(htv, .inl (G.2 0, 121, .inl vl))]]) 0 0 (fun v w' => v = some (.int (isS kd vl x y)) ∧ w' = (bj [[(h0, .inr (9, [.ref ht, .ref (d 0), .int x]))], [(ht, .inr (11, [.ref htt, .ref htk, .ref htb, .ref htv, .int ct]))], [(htk, .inl (G.2 0, 121, .inl kd))], [(htv, .inl (G.2 0, 121, .inl vl))]])) := by
  refine Ct.of (by decide) (Nat.le_of_ble_eq_true rfl) (fun p e s m args below meth c A ls H locs hx hb hml hr hnl hown hts hnm hK hA hl hW => ?_)
  have hl : lv_has ls 2 [(0, .ref h0), (1, .int y)] := hl
  refine lv_aload_n hx hb d_Reader_isSign_0 rfl (lv_at hl 0 rfl) ?_
  refine Wd.get hx hb hts hown hK hW 0 0 in_Reader w_fl_Reader_12 (by decide) d_Reader_isSign_1 rfl rfl rfl ?_
  refine Wd.get hx hb hts hown hK hW 1 1 in_Tokens w_fl_Reader_52 (by decide) d_Reader_isSign_4 rfl rfl rfl ?_
  refine lv_aload_n hx hb d_Reader_isSign_7 rfl (lv_at hl 0 rfl) ?_
  refine Wd.get hx hb hts hown hK hW 0 2 in_Reader w_fl_Reader_29 (by decide) d_Reader_isSign_8 rfl rfl rfl ?_
  refine Wd.iald hx hb hK hW 2 d_Reader_isSign_11 rfl hx0 ?_
  refine lv_iconst (v := 3) hx hb d_Reader_isSign_12 (by decide) ?_
  refine lv_icmp_ne (tgt := 36) hx hb d_Reader_isSign_13 rfl (fun ht1 => ?_) (fun hf2 => ?_)
  · refine lv_iconst (v := 0) hx hb d_Reader_isSign_36 (by decide) ?_
    exact Ct.zret hx hb hr hnl hW (by decide) (by decide) d_Reader_isSign_37 (by decide) ⟨by first | rfl | (simp only [isS, if_neg ht1]; done) | (simp only [isS, if_neg ht1]; rfl), by first | rfl | (simp only [isS, if_neg ht1]; done) | (simp only [isS, if_neg ht1]; rfl)⟩
  · refine lv_aload_n hx hb d_Reader_isSign_16 rfl (lv_at hl 0 rfl) ?_
    refine Wd.get hx hb hts hown hK hW 0 0 in_Reader w_fl_Reader_12 (by decide) d_Reader_isSign_17 rfl rfl rfl ?_
    refine Wd.get hx hb hts hown hK hW 1 3 in_Tokens w_fl_Reader_72 (by decide) d_Reader_isSign_20 rfl rfl rfl ?_
    refine lv_aload_n hx hb d_Reader_isSign_23 rfl (lv_at hl 0 rfl) ?_
    refine Wd.get hx hb hts hown hK hW 0 2 in_Reader w_fl_Reader_29 (by decide) d_Reader_isSign_24 rfl rfl rfl ?_
    refine Wd.iald hx hb hK hW 3 d_Reader_isSign_27 rfl hx0 ?_
    refine lv_iload_n hx hb d_Reader_isSign_28 rfl (lv_at hl 1 rfl) ?_
    refine lv_icmp_ne (tgt := 36) hx hb d_Reader_isSign_29 rfl (fun ht3 => ?_) (fun hf4 => ?_)
    · refine lv_iconst (v := 0) hx hb d_Reader_isSign_36 (by decide) ?_
      exact Ct.zret hx hb hr hnl hW (by decide) (by decide) d_Reader_isSign_37 (by decide) ⟨by first | rfl | (simp only [isS, if_pos hf2, if_neg ht3]; done) | (simp only [isS, if_pos hf2, if_neg ht3]; rfl), by first | rfl | (simp only [isS, if_pos hf2, if_neg ht3]; done) | (simp only [isS, if_pos hf2, if_neg ht3]; rfl)⟩
    · refine lv_iconst (v := 1) hx hb d_Reader_isSign_32 (by decide) ?_
      refine lv_goto (tgt := 37) hx hb d_Reader_isSign_33 rfl ?_
      exact Ct.zret hx hb hr hnl hW (by decide) (by decide) d_Reader_isSign_37 (by decide) ⟨by first | rfl | (simp only [isS, if_pos hf2, if_pos hf4]; done) | (simp only [isS, if_pos hf2, if_pos hf4]; rfl), by first | rfl | (simp only [isS, if_pos hf2, if_pos hf4]; done) | (simp only [isS, if_pos hf2, if_pos hf4]; rfl)⟩

abbrev rm_Reader_take : Room := { frames := 0, cells := 0, slots := 0, locals := 0 }
set_option maxHeartbeats 4000000 in
set_option maxRecDepth 100000 in
theorem c_Reader_take (l : Launch) (G : Gt) (h0 : Nat) (ht : Nat) (d : Nat → Nat) (htt : Nat) (htk : Nat) (htb : Nat) (htv : Nat) (ct : Int32) (vl : Nat → Int32) (x : Int32) (hx0 : vp_in x 121) : Ct l G y_Reader_take b_Reader_take 2 (some .int) rm_Reader_take [.ref h0] (bj [[(h0, .inr (9, [.ref ht, .ref (d 0), .int x]))], [(ht, .inr (11, [.ref htt, .ref htk, .ref htb, .ref htv, .int ct]))], [(htv, .inl (G.2 0, 121, .inl vl))]]) 0 0 (fun v w' => v = some (.int (vl x.toNatClampNeg)) ∧ w' = (bj [[(h0, .inr (9, [.ref ht, .ref (d 0), .int (x + 1)]))], [(ht, .inr (11, [.ref htt, .ref htk, .ref htb, .ref htv, .int ct]))], [(htv, .inl (G.2 0, 121, .inl vl))]])) := by
  refine Ct.of (by decide) (Nat.le_of_ble_eq_true rfl) (fun p e s m args below meth c A ls H locs hx hb hml hr hnl hown hts hnm hK hA hl hW => ?_)
  have hl : lv_has ls 2 [(0, .ref h0)] := hl
  refine lv_aload_n hx hb d_Reader_take_0 rfl (lv_at hl 0 rfl) ?_
  refine Wd.get hx hb hts hown hK hW 0 0 in_Reader w_fl_Reader_12 (by decide) d_Reader_take_1 rfl rfl rfl ?_
  refine Wd.get hx hb hts hown hK hW 1 3 in_Tokens w_fl_Reader_72 (by decide) d_Reader_take_4 rfl rfl rfl ?_
  refine lv_aload_n hx hb d_Reader_take_7 rfl (lv_at hl 0 rfl) ?_
  refine Wd.get hx hb hts hown hK hW 0 2 in_Reader w_fl_Reader_29 (by decide) d_Reader_take_8 rfl rfl rfl ?_
  refine Wd.iald hx hb hK hW 2 d_Reader_take_11 rfl hx0 ?_
  refine lv_istore_n (lv' := [(1, .int (vl x.toNatClampNeg)), (0, .ref h0)]) hx hb d_Reader_take_12 rfl hl (by decide) rfl (fun ls hl => ?_)
  refine lv_aload_n hx hb d_Reader_take_13 rfl (lv_at hl 1 rfl) ?_
  refine lv_dup hx hb d_Reader_take_14 rfl ?_
  refine Wd.get hx hb hts hown hK hW 0 2 in_Reader w_fl_Reader_29 (by decide) d_Reader_take_15 rfl rfl rfl ?_
  refine lv_iconst (v := 1) hx hb d_Reader_take_18 (by decide) ?_
  refine lv_iadd hx hb d_Reader_take_19 ?_
  refine Wd.put (v := .int (x + 1)) hx hb hts hown hK hW 0 2 in_Reader t_Reader_ok n_Reader w_fl_Reader_29 (by decide) d_Reader_take_20 rfl rfl rfl rfl rfl (Nat.le_of_ble_eq_true rfl) (fun H locs hW => ?_)
  have hW : Wd G A s.heap (bj [[(h0, .inr (9, [.ref ht, .ref (d 0), .int (x + 1)]))], [(ht, .inr (11, [.ref htt, .ref htk, .ref htb, .ref htv, .int ct]))], [(htv, .inl (G.2 0, 121, .inl vl))]]) H locs := hW
  refine lv_iload_n hx hb d_Reader_take_23 rfl (lv_at hl 0 rfl) ?_
  exact Ct.iret hx hb hr hnl hW (by decide) (by decide) d_Reader_take_24 ⟨rfl, rfl⟩

abbrev rm_Reader_takeSign : Room := { frames := 1, cells := 0, slots := 0, locals := 21 }
set_option maxHeartbeats 4000000 in
set_option maxRecDepth 100000 in
theorem c_Reader_takeSign (l : Launch) (G : Gt) (h0 : Nat) (ht : Nat) (d : Nat → Nat) (htt : Nat) (htk : Nat) (htb : Nat) (htv : Nat) (ct : Int32) (kd : Nat → Int32) (vl : Nat → Int32) (x : Int32) (y : Int32) (hx0 : vp_in x 121) : Ct l G y_Reader_takeSign b_Reader_takeSign 2 (some .boolean) rm_Reader_takeSign [.ref h0, .int y] (bj [[(h0, .inr (9, [.ref ht, .ref (d 0), .int x]))], [(ht, .inr (11, [.ref htt, .ref htk, .ref htb, .ref htv, .int ct]))], [(htk, .inl (G.2 0, 121, .inl kd))], [(htv, .inl (G.2 0, 121, .inl vl))]]) 0 0 (fun v w' => v = some (.int (isS kd vl x y)) ∧ w' = (bj [[(h0, .inr (9, [.ref ht, .ref (d 0), .int (tkA kd vl x y)]))], [(ht, .inr (11, [.ref htt, .ref htk, .ref htb, .ref htv, .int ct]))], [(htk, .inl (G.2 0, 121, .inl kd))], [(htv, .inl (G.2 0, 121, .inl vl))]])) := by
  refine Ct.of (by decide) (Nat.le_of_ble_eq_true rfl) (fun p e s m args below meth c A ls H locs hx hb hml hr hnl hown hts hnm hK hA hl hW => ?_)
  have hl : lv_has ls 2 [(0, .ref h0), (1, .int y)] := hl
  refine lv_aload_n hx hb d_Reader_takeSign_0 rfl (lv_at hl 0 rfl) ?_
  refine lv_iload_n hx hb d_Reader_takeSign_1 rfl (lv_at hl 1 rfl) ?_
  refine Ct.callVB (As := [.int y]) (rest := []) (wr := bj []) hx hb hml hown hts hK hA hl.1 hW (bl_pick (bs := [[(h0, .inr (9, [.ref ht, .ref (d 0), .int x]))], [(ht, .inr (11, [.ref htt, .ref htk, .ref htb, .ref htv, .int ct]))], [(htk, .inl (G.2 0, 121, .inl kd))], [(htv, .inl (G.2 0, 121, .inl vl))]]) (rs := []) (Bs := [[(h0, .inr (9, [.ref ht, .ref (d 0), .int x]))], [(ht, .inr (11, [.ref htt, .ref htk, .ref htb, .ref htv, .int ct]))], [(htk, .inl (G.2 0, 121, .inl kd))], [(htv, .inl (G.2 0, 121, .inl vl))]]) [0, 1, 2, 3] (show ([0, 1, 2, 3] : List Nat).Perm (List.range 4) by decide) rfl) (c_Reader_isSign l G h0 ht d htt htk htb htv ct kd vl x y hx0) (cwV 1 hts (good_V w_ml_Reader_95 w_im_Reader_isSign w_se_Reader_isSign w_ini_Reader w_code_Reader_isSign) rfl rfl rfl yd_Reader_isSign ⟨by decide, by decide⟩) (ci := 9) (r := vr_Reader) rfl rfl rfl rfl rfl (Nat.le_of_ble_eq_true rfl) d_Reader_takeSign_2 ⟨by decide, by decide⟩ (fun v w' hp => by obtain ⟨-, rfl⟩ := hp; exact Nat.le_of_ble_eq_true rfl) (fun v w' H locs hp hW => ?_)
  obtain ⟨rfl, rfl⟩ := hp
  have hW := Wd.blk (rs := []) (bs := [[(h0, .inr (9, [.ref ht, .ref (d 0), .int x]))], [(ht, .inr (11, [.ref htt, .ref htk, .ref htb, .ref htv, .int ct]))], [(htk, .inl (G.2 0, 121, .inl kd))], [(htv, .inl (G.2 0, 121, .inl vl))]]) (Bs := [[(h0, .inr (9, [.ref ht, .ref (d 0), .int x]))], [(ht, .inr (11, [.ref htt, .ref htk, .ref htb, .ref htv, .int ct]))], [(htk, .inl (G.2 0, 121, .inl kd))], [(htv, .inl (G.2 0, 121, .inl vl))]]) hW [0, 1, 2, 3] (show ([0, 1, 2, 3] : List Nat).Perm (List.range 4) by decide) rfl
  refine W.eq (g2 := F0 m 5 ls [.int (isS kd vl x y)]) rfl ?_
  refine lv_if_ne (tgt := 10) hx hb d_Reader_takeSign_5 rfl (fun ht1 => ?_) (fun hf2 => ?_)
  · refine lv_aload_n hx hb d_Reader_takeSign_10 rfl (lv_at hl 0 rfl) ?_
    refine lv_dup hx hb d_Reader_takeSign_11 rfl ?_
    refine Wd.get hx hb hts hown hK hW 0 2 in_Reader w_fl_Reader_29 (by decide) d_Reader_takeSign_12 rfl rfl rfl ?_
    refine lv_iconst (v := 1) hx hb d_Reader_takeSign_15 (by decide) ?_
    refine lv_iadd hx hb d_Reader_takeSign_16 ?_
    refine Wd.put (v := .int (x + 1)) hx hb hts hown hK hW 0 2 in_Reader t_Reader_ok n_Reader w_fl_Reader_29 (by decide) d_Reader_takeSign_17 rfl rfl rfl rfl rfl (Nat.le_of_ble_eq_true rfl) (fun H locs hW => ?_)
    have hW : Wd G A s.heap (bj [[(h0, .inr (9, [.ref ht, .ref (d 0), .int (x + 1)]))], [(ht, .inr (11, [.ref htt, .ref htk, .ref htb, .ref htv, .int ct]))], [(htk, .inl (G.2 0, 121, .inl kd))], [(htv, .inl (G.2 0, 121, .inl vl))]]) H locs := hW
    refine lv_iconst (v := 1) hx hb d_Reader_takeSign_20 (by decide) ?_
    exact Ct.zret hx hb hr hnl hW (by decide) (by decide) d_Reader_takeSign_21 (by decide) ⟨by rw [(isS_b kd vl x y).resolve_left ht1], by unfold tkA; rw [if_neg ht1]⟩
  · refine lv_iconst (v := 0) hx hb d_Reader_takeSign_8 (by decide) ?_
    exact Ct.zret hx hb hr hnl hW (by decide) (by decide) d_Reader_takeSign_9 (by decide) ⟨by rw [hf2], by unfold tkA; rw [if_pos hf2]⟩

abbrev rm_Reader_kindOfSign : Room := { frames := 1, cells := 0, slots := 0, locals := 21 }
set_option maxHeartbeats 4000000 in
set_option maxRecDepth 100000 in
theorem c_Reader_kindOfSign (l : Launch) (G : Gt) (h0 : Nat) (ht : Nat) (d : Nat → Nat) (htt : Nat) (htk : Nat) (htb : Nat) (htv : Nat) (ct : Int32) (kd : Nat → Int32) (vl : Nat → Int32) (x : Int32) (hx0 : vp_in x 121) : Ct l G y_Reader_kindOfSign b_Reader_kindOfSign 1 (some .int) rm_Reader_kindOfSign [.ref h0] (bj [[(h0, .inr (9, [.ref ht, .ref (d 0), .int x]))], [(ht, .inr (11, [.ref htt, .ref htk, .ref htb, .ref htv, .int ct]))], [(htk, .inl (G.2 0, 121, .inl kd))], [(htv, .inl (G.2 0, 121, .inl vl))]]) 0 0 (fun v w' => v = some (.int (kOS kd vl x)) ∧ w' = (bj [[(h0, .inr (9, [.ref ht, .ref (d 0), .int x]))], [(ht, .inr (11, [.ref htt, .ref htk, .ref htb, .ref htv, .int ct]))], [(htk, .inl (G.2 0, 121, .inl kd))], [(htv, .inl (G.2 0, 121, .inl vl))]])) := by
  refine Ct.of (by decide) (Nat.le_of_ble_eq_true rfl) (fun p e s m args below meth c A ls H locs hx hb hml hr hnl hown hts hnm hK hA hl hW => ?_)
  have hl : lv_has ls 1 [(0, .ref h0)] := hl
  refine lv_aload_n hx hb d_Reader_kindOfSign_0 rfl (lv_at hl 0 rfl) ?_
  refine lv_bipush (v := 43) hx hb d_Reader_kindOfSign_1 (by decide) ?_
  refine Ct.callVB (As := [.int 43]) (rest := []) (wr := bj []) hx hb hml hown hts hK hA hl.1 hW (bl_pick (bs := [[(h0, .inr (9, [.ref ht, .ref (d 0), .int x]))], [(ht, .inr (11, [.ref htt, .ref htk, .ref htb, .ref htv, .int ct]))], [(htk, .inl (G.2 0, 121, .inl kd))], [(htv, .inl (G.2 0, 121, .inl vl))]]) (rs := []) (Bs := [[(h0, .inr (9, [.ref ht, .ref (d 0), .int x]))], [(ht, .inr (11, [.ref htt, .ref htk, .ref htb, .ref htv, .int ct]))], [(htk, .inl (G.2 0, 121, .inl kd))], [(htv, .inl (G.2 0, 121, .inl vl))]]) [0, 1, 2, 3] (show ([0, 1, 2, 3] : List Nat).Perm (List.range 4) by decide) rfl) (c_Reader_isSign l G h0 ht d htt htk htb htv ct kd vl x (43 : Int32) hx0) (cwV 1 hts (good_V w_ml_Reader_95 w_im_Reader_isSign w_se_Reader_isSign w_ini_Reader w_code_Reader_isSign) rfl rfl rfl yd_Reader_isSign ⟨by decide, by decide⟩) (ci := 9) (r := vr_Reader) rfl rfl rfl rfl rfl (Nat.le_of_ble_eq_true rfl) d_Reader_kindOfSign_3 ⟨by decide, by decide⟩ (fun v w' hp => by obtain ⟨-, rfl⟩ := hp; exact Nat.le_of_ble_eq_true rfl) (fun v w' H locs hp hW => ?_)
  obtain ⟨rfl, rfl⟩ := hp
  have hW := Wd.blk (rs := []) (bs := [[(h0, .inr (9, [.ref ht, .ref (d 0), .int x]))], [(ht, .inr (11, [.ref htt, .ref htk, .ref htb, .ref htv, .int ct]))], [(htk, .inl (G.2 0, 121, .inl kd))], [(htv, .inl (G.2 0, 121, .inl vl))]]) (Bs := [[(h0, .inr (9, [.ref ht, .ref (d 0), .int x]))], [(ht, .inr (11, [.ref htt, .ref htk, .ref htb, .ref htv, .int ct]))], [(htk, .inl (G.2 0, 121, .inl kd))], [(htv, .inl (G.2 0, 121, .inl vl))]]) hW [0, 1, 2, 3] (show ([0, 1, 2, 3] : List Nat).Perm (List.range 4) by decide) rfl
  refine W.eq (g2 := F0 m 6 ls [.int (isS kd vl x (43 : Int32))]) rfl ?_
  refine lv_if_eq (tgt := 11) hx hb d_Reader_kindOfSign_6 rfl (fun ht1 => ?_) (fun hf2 => ?_)
  · refine lv_aload_n hx hb d_Reader_kindOfSign_11 rfl (lv_at hl 0 rfl) ?_
    refine lv_bipush (v := 45) hx hb d_Reader_kindOfSign_12 (by decide) ?_
    refine Ct.callVB (As := [.int 45]) (rest := []) (wr := bj []) hx hb hml hown hts hK hA hl.1 hW (bl_pick (bs := [[(h0, .inr (9, [.ref ht, .ref (d 0), .int x]))], [(ht, .inr (11, [.ref htt, .ref htk, .ref htb, .ref htv, .int ct]))], [(htk, .inl (G.2 0, 121, .inl kd))], [(htv, .inl (G.2 0, 121, .inl vl))]]) (rs := []) (Bs := [[(h0, .inr (9, [.ref ht, .ref (d 0), .int x]))], [(ht, .inr (11, [.ref htt, .ref htk, .ref htb, .ref htv, .int ct]))], [(htk, .inl (G.2 0, 121, .inl kd))], [(htv, .inl (G.2 0, 121, .inl vl))]]) [0, 1, 2, 3] (show ([0, 1, 2, 3] : List Nat).Perm (List.range 4) by decide) rfl) (c_Reader_isSign l G h0 ht d htt htk htb htv ct kd vl x (45 : Int32) hx0) (cwV 1 hts (good_V w_ml_Reader_95 w_im_Reader_isSign w_se_Reader_isSign w_ini_Reader w_code_Reader_isSign) rfl rfl rfl yd_Reader_isSign ⟨by decide, by decide⟩) (ci := 9) (r := vr_Reader) rfl rfl rfl rfl rfl (Nat.le_of_ble_eq_true rfl) d_Reader_kindOfSign_14 ⟨by decide, by decide⟩ (fun v w' hp => by obtain ⟨-, rfl⟩ := hp; exact Nat.le_of_ble_eq_true rfl) (fun v w' H locs hp hW => ?_)
    obtain ⟨rfl, rfl⟩ := hp
    have hW := Wd.blk (rs := []) (bs := [[(h0, .inr (9, [.ref ht, .ref (d 0), .int x]))], [(ht, .inr (11, [.ref htt, .ref htk, .ref htb, .ref htv, .int ct]))], [(htk, .inl (G.2 0, 121, .inl kd))], [(htv, .inl (G.2 0, 121, .inl vl))]]) (Bs := [[(h0, .inr (9, [.ref ht, .ref (d 0), .int x]))], [(ht, .inr (11, [.ref htt, .ref htk, .ref htb, .ref htv, .int ct]))], [(htk, .inl (G.2 0, 121, .inl kd))], [(htv, .inl (G.2 0, 121, .inl vl))]]) hW [0, 1, 2, 3] (show ([0, 1, 2, 3] : List Nat).Perm (List.range 4) by decide) rfl
    refine W.eq (g2 := F0 m 17 ls [.int (isS kd vl x (45 : Int32))]) rfl ?_
    refine lv_if_eq (tgt := 22) hx hb d_Reader_kindOfSign_17 rfl (fun ht3 => ?_) (fun hf4 => ?_)
    · refine lv_aload_n hx hb d_Reader_kindOfSign_22 rfl (lv_at hl 0 rfl) ?_
      refine lv_bipush (v := 42) hx hb d_Reader_kindOfSign_23 (by decide) ?_
      refine Ct.callVB (As := [.int 42]) (rest := []) (wr := bj []) hx hb hml hown hts hK hA hl.1 hW (bl_pick (bs := [[(h0, .inr (9, [.ref ht, .ref (d 0), .int x]))], [(ht, .inr (11, [.ref htt, .ref htk, .ref htb, .ref htv, .int ct]))], [(htk, .inl (G.2 0, 121, .inl kd))], [(htv, .inl (G.2 0, 121, .inl vl))]]) (rs := []) (Bs := [[(h0, .inr (9, [.ref ht, .ref (d 0), .int x]))], [(ht, .inr (11, [.ref htt, .ref htk, .ref htb, .ref htv, .int ct]))], [(htk, .inl (G.2 0, 121, .inl kd))], [(htv, .inl (G.2 0, 121, .inl vl))]]) [0, 1, 2, 3] (show ([0, 1, 2, 3] : List Nat).Perm (List.range 4) by decide) rfl) (c_Reader_isSign l G h0 ht d htt htk htb htv ct kd vl x (42 : Int32) hx0) (cwV 1 hts (good_V w_ml_Reader_95 w_im_Reader_isSign w_se_Reader_isSign w_ini_Reader w_code_Reader_isSign) rfl rfl rfl yd_Reader_isSign ⟨by decide, by decide⟩) (ci := 9) (r := vr_Reader) rfl rfl rfl rfl rfl (Nat.le_of_ble_eq_true rfl) d_Reader_kindOfSign_25 ⟨by decide, by decide⟩ (fun v w' hp => by obtain ⟨-, rfl⟩ := hp; exact Nat.le_of_ble_eq_true rfl) (fun v w' H locs hp hW => ?_)
      obtain ⟨rfl, rfl⟩ := hp
      have hW := Wd.blk (rs := []) (bs := [[(h0, .inr (9, [.ref ht, .ref (d 0), .int x]))], [(ht, .inr (11, [.ref htt, .ref htk, .ref htb, .ref htv, .int ct]))], [(htk, .inl (G.2 0, 121, .inl kd))], [(htv, .inl (G.2 0, 121, .inl vl))]]) (Bs := [[(h0, .inr (9, [.ref ht, .ref (d 0), .int x]))], [(ht, .inr (11, [.ref htt, .ref htk, .ref htb, .ref htv, .int ct]))], [(htk, .inl (G.2 0, 121, .inl kd))], [(htv, .inl (G.2 0, 121, .inl vl))]]) hW [0, 1, 2, 3] (show ([0, 1, 2, 3] : List Nat).Perm (List.range 4) by decide) rfl
      refine W.eq (g2 := F0 m 28 ls [.int (isS kd vl x (42 : Int32))]) rfl ?_
      refine lv_if_eq (tgt := 33) hx hb d_Reader_kindOfSign_28 rfl (fun ht5 => ?_) (fun hf6 => ?_)
      · refine lv_aload_n hx hb d_Reader_kindOfSign_33 rfl (lv_at hl 0 rfl) ?_
        refine lv_bipush (v := 60) hx hb d_Reader_kindOfSign_34 (by decide) ?_
        refine Ct.callVB (As := [.int 60]) (rest := []) (wr := bj []) hx hb hml hown hts hK hA hl.1 hW (bl_pick (bs := [[(h0, .inr (9, [.ref ht, .ref (d 0), .int x]))], [(ht, .inr (11, [.ref htt, .ref htk, .ref htb, .ref htv, .int ct]))], [(htk, .inl (G.2 0, 121, .inl kd))], [(htv, .inl (G.2 0, 121, .inl vl))]]) (rs := []) (Bs := [[(h0, .inr (9, [.ref ht, .ref (d 0), .int x]))], [(ht, .inr (11, [.ref htt, .ref htk, .ref htb, .ref htv, .int ct]))], [(htk, .inl (G.2 0, 121, .inl kd))], [(htv, .inl (G.2 0, 121, .inl vl))]]) [0, 1, 2, 3] (show ([0, 1, 2, 3] : List Nat).Perm (List.range 4) by decide) rfl) (c_Reader_isSign l G h0 ht d htt htk htb htv ct kd vl x (60 : Int32) hx0) (cwV 1 hts (good_V w_ml_Reader_95 w_im_Reader_isSign w_se_Reader_isSign w_ini_Reader w_code_Reader_isSign) rfl rfl rfl yd_Reader_isSign ⟨by decide, by decide⟩) (ci := 9) (r := vr_Reader) rfl rfl rfl rfl rfl (Nat.le_of_ble_eq_true rfl) d_Reader_kindOfSign_36 ⟨by decide, by decide⟩ (fun v w' hp => by obtain ⟨-, rfl⟩ := hp; exact Nat.le_of_ble_eq_true rfl) (fun v w' H locs hp hW => ?_)
        obtain ⟨rfl, rfl⟩ := hp
        have hW := Wd.blk (rs := []) (bs := [[(h0, .inr (9, [.ref ht, .ref (d 0), .int x]))], [(ht, .inr (11, [.ref htt, .ref htk, .ref htb, .ref htv, .int ct]))], [(htk, .inl (G.2 0, 121, .inl kd))], [(htv, .inl (G.2 0, 121, .inl vl))]]) (Bs := [[(h0, .inr (9, [.ref ht, .ref (d 0), .int x]))], [(ht, .inr (11, [.ref htt, .ref htk, .ref htb, .ref htv, .int ct]))], [(htk, .inl (G.2 0, 121, .inl kd))], [(htv, .inl (G.2 0, 121, .inl vl))]]) hW [0, 1, 2, 3] (show ([0, 1, 2, 3] : List Nat).Perm (List.range 4) by decide) rfl
        refine W.eq (g2 := F0 m 39 ls [.int (isS kd vl x (60 : Int32))]) rfl ?_
        refine lv_if_eq (tgt := 46) hx hb d_Reader_kindOfSign_39 rfl (fun ht7 => ?_) (fun hf8 => ?_)
        · refine lv_iconst (v := 0) hx hb d_Reader_kindOfSign_46 (by decide) ?_
          exact Ct.iret hx hb hr hnl hW (by decide) (by decide) d_Reader_kindOfSign_47 ⟨by first | rfl | (simp only [kOS, if_pos ht1, if_pos ht3, if_pos ht5, if_pos ht7]; done) | (simp only [kOS, if_pos ht1, if_pos ht3, if_pos ht5, if_pos ht7]; rfl), by first | rfl | (simp only [kOS, if_pos ht1, if_pos ht3, if_pos ht5, if_pos ht7]; done) | (simp only [kOS, if_pos ht1, if_pos ht3, if_pos ht5, if_pos ht7]; rfl)⟩
        · refine lv_iconst (v := 4) hx hb d_Reader_kindOfSign_42 (by decide) ?_
          refine lv_goto (tgt := 47) hx hb d_Reader_kindOfSign_43 rfl ?_
          exact Ct.iret hx hb hr hnl hW (by decide) (by decide) d_Reader_kindOfSign_47 ⟨by first | rfl | (simp only [kOS, if_pos ht1, if_pos ht3, if_pos ht5, if_neg hf8]; done) | (simp only [kOS, if_pos ht1, if_pos ht3, if_pos ht5, if_neg hf8]; rfl), by first | rfl | (simp only [kOS, if_pos ht1, if_pos ht3, if_pos ht5, if_neg hf8]; done) | (simp only [kOS, if_pos ht1, if_pos ht3, if_pos ht5, if_neg hf8]; rfl)⟩
      · refine lv_iconst (v := 3) hx hb d_Reader_kindOfSign_31 (by decide) ?_
        exact Ct.iret hx hb hr hnl hW (by decide) (by decide) d_Reader_kindOfSign_32 ⟨by first | rfl | (simp only [kOS, if_pos ht1, if_pos ht3, if_neg hf6]; done) | (simp only [kOS, if_pos ht1, if_pos ht3, if_neg hf6]; rfl), by first | rfl | (simp only [kOS, if_pos ht1, if_pos ht3, if_neg hf6]; done) | (simp only [kOS, if_pos ht1, if_pos ht3, if_neg hf6]; rfl)⟩
    · refine lv_iconst (v := 2) hx hb d_Reader_kindOfSign_20 (by decide) ?_
      exact Ct.iret hx hb hr hnl hW (by decide) (by decide) d_Reader_kindOfSign_21 ⟨by first | rfl | (simp only [kOS, if_pos ht1, if_neg hf4]; done) | (simp only [kOS, if_pos ht1, if_neg hf4]; rfl), by first | rfl | (simp only [kOS, if_pos ht1, if_neg hf4]; done) | (simp only [kOS, if_pos ht1, if_neg hf4]; rfl)⟩
  · refine lv_iconst (v := 1) hx hb d_Reader_kindOfSign_9 (by decide) ?_
    exact Ct.iret hx hb hr hnl hW (by decide) (by decide) d_Reader_kindOfSign_10 ⟨by first | rfl | (simp only [kOS, if_neg hf2]; done) | (simp only [kOS, if_neg hf2]; rfl), by first | rfl | (simp only [kOS, if_neg hf2]; done) | (simp only [kOS, if_neg hf2]; rfl)⟩

abbrev rm_Reader_endsRowFrom : Room := { frames := 1, cells := 0, slots := 0, locals := 21 }
set_option maxHeartbeats 4000000 in
set_option maxRecDepth 100000 in
theorem c_Reader_endsRowFrom (l : Launch) (G : Gt) (h0 : Nat) (ht : Nat) (d : Nat → Nat) (htt : Nat) (htk : Nat) (htb : Nat) (htv : Nat) (ct : Int32) (kd : Nat → Int32) (vl : Nat → Int32) (x : Int32) (y : Int32) (hx0 : vp_in x 121) : Ct l G y_Reader_endsRowFrom b_Reader_endsRowFrom 3 (some .boolean) rm_Reader_endsRowFrom [.ref h0, .int y] (bj [[(h0, .inr (9, [.ref ht, .ref (d 0), .int x]))], [(ht, .inr (11, [.ref htt, .ref htk, .ref htb, .ref htv, .int ct]))], [(htk, .inl (G.2 0, 121, .inl kd))], [(htv, .inl (G.2 0, 121, .inl vl))]]) 0 0 (fun v w' => v = some (.int (eRF kd vl x y)) ∧ w' = (bj [[(h0, .inr (9, [.ref ht, .ref (d 0), .int x]))], [(ht, .inr (11, [.ref htt, .ref htk, .ref htb, .ref htv, .int ct]))], [(htk, .inl (G.2 0, 121, .inl kd))], [(htv, .inl (G.2 0, 121, .inl vl))]])) := by
  refine Ct.of (by decide) (Nat.le_of_ble_eq_true rfl) (fun p e s m args below meth c A ls H locs hx hb hml hr hnl hown hts hnm hK hA hl hW => ?_)
  have hl : lv_has ls 3 [(0, .ref h0), (1, .int y)] := hl
  refine lv_aload_n hx hb d_Reader_endsRowFrom_0 rfl (lv_at hl 0 rfl) ?_
  refine Wd.get hx hb hts hown hK hW 0 0 in_Reader w_fl_Reader_12 (by decide) d_Reader_endsRowFrom_1 rfl rfl rfl ?_
  refine Wd.get hx hb hts hown hK hW 1 3 in_Tokens w_fl_Reader_72 (by decide) d_Reader_endsRowFrom_4 rfl rfl rfl ?_
  refine lv_aload_n hx hb d_Reader_endsRowFrom_7 rfl (lv_at hl 0 rfl) ?_
  refine Wd.get hx hb hts hown hK hW 0 2 in_Reader w_fl_Reader_29 (by decide) d_Reader_endsRowFrom_8 rfl rfl rfl ?_
  refine Wd.iald hx hb hK hW 3 d_Reader_endsRowFrom_11 rfl hx0 ?_
  refine lv_iload_n hx hb d_Reader_endsRowFrom_12 rfl (lv_at hl 1 rfl) ?_
  refine lv_isub hx hb d_Reader_endsRowFrom_13 ?_
  refine lv_istore_n (lv' := [(2, .int ((vl x.toNatClampNeg) - y)), (0, .ref h0), (1, .int y)]) hx hb d_Reader_endsRowFrom_14 rfl hl (by decide) rfl (fun ls hl => ?_)
  refine lv_aload_n hx hb d_Reader_endsRowFrom_15 rfl (lv_at hl 1 rfl) ?_
  refine lv_iconst (v := 1) hx hb d_Reader_endsRowFrom_16 (by decide) ?_
  refine Ct.callVB (As := [.int 1]) (rest := []) (wr := bj [[(htv, .inl (G.2 0, 121, .inl vl))]]) hx hb hml hown hts hK hA hl.1 hW (bl_pick (bs := [[(h0, .inr (9, [.ref ht, .ref (d 0), .int x]))], [(ht, .inr (11, [.ref htt, .ref htk, .ref htb, .ref htv, .int ct]))], [(htk, .inl (G.2 0, 121, .inl kd))]]) (rs := [[(htv, .inl (G.2 0, 121, .inl vl))]]) (Bs := [[(h0, .inr (9, [.ref ht, .ref (d 0), .int x]))], [(ht, .inr (11, [.ref htt, .ref htk, .ref htb, .ref htv, .int ct]))], [(htk, .inl (G.2 0, 121, .inl kd))], [(htv, .inl (G.2 0, 121, .inl vl))]]) [0, 1, 2, 3] (show ([0, 1, 2, 3] : List Nat).Perm (List.range 4) by decide) rfl) (c_Reader_is l G h0 ht d htt htk htb htv ct kd x (1 : Int32) hx0) (cwV 1 hts (good_V w_ml_Reader_44 w_im_Reader_is w_se_Reader_is w_ini_Reader w_code_Reader_is) rfl rfl rfl yd_Reader_is ⟨by decide, by decide⟩) (ci := 9) (r := vr_Reader) rfl rfl rfl rfl rfl (Nat.le_of_ble_eq_true rfl) d_Reader_endsRowFrom_17 ⟨by decide, by decide⟩ (fun v w' hp => by obtain ⟨-, rfl⟩ := hp; exact Nat.le_of_ble_eq_true rfl) (fun v w' H locs hp hW => ?_)
  obtain ⟨rfl, rfl⟩ := hp
  have hW := Wd.blk (rs := [[(htv, .inl (G.2 0, 121, .inl vl))]]) (bs := [[(h0, .inr (9, [.ref ht, .ref (d 0), .int x]))], [(ht, .inr (11, [.ref htt, .ref htk, .ref htb, .ref htv, .int ct]))], [(htk, .inl (G.2 0, 121, .inl kd))]]) (Bs := [[(h0, .inr (9, [.ref ht, .ref (d 0), .int x]))], [(ht, .inr (11, [.ref htt, .ref htk, .ref htb, .ref htv, .int ct]))], [(htk, .inl (G.2 0, 121, .inl kd))], [(htv, .inl (G.2 0, 121, .inl vl))]]) hW [1, 2, 3, 0] (show ([1, 2, 3, 0] : List Nat).Perm (List.range 4) by decide) rfl
  refine W.eq (g2 := F0 m 20 ls [.int (isT kd x (1 : Int32))]) rfl ?_
  refine lv_if_eq (tgt := 37) hx hb d_Reader_endsRowFrom_20 rfl (fun ht1 => ?_) (fun hf2 => ?_)
  · refine lv_iconst (v := 0) hx hb d_Reader_endsRowFrom_37 (by decide) ?_
    exact Ct.zret hx hb hr hnl hW (by decide) (by decide) d_Reader_endsRowFrom_38 (by decide) ⟨by first | rfl | (simp only [eRF, if_pos ht1]; done) | (simp only [eRF, if_pos ht1]; rfl), by first | rfl | (simp only [eRF, if_pos ht1]; done) | (simp only [eRF, if_pos ht1]; rfl)⟩
  · refine lv_iload_n hx hb d_Reader_endsRowFrom_23 rfl (lv_at hl 0 rfl) ?_
    refine lv_iconst (v := 1) hx hb d_Reader_endsRowFrom_24 (by decide) ?_
    refine lv_icmp_lt (tgt := 37) hx hb d_Reader_endsRowFrom_25 rfl (fun ht3 => ?_) (fun hf4 => ?_)
    · refine lv_iconst (v := 0) hx hb d_Reader_endsRowFrom_37 (by decide) ?_
      exact Ct.zret hx hb hr hnl hW (by decide) (by decide) d_Reader_endsRowFrom_38 (by decide) ⟨by first | rfl | (simp only [eRF, if_neg hf2, if_pos ht3]; done) | (simp only [eRF, if_neg hf2, if_pos ht3]; rfl), by first | rfl | (simp only [eRF, if_neg hf2, if_pos ht3]; done) | (simp only [eRF, if_neg hf2, if_pos ht3]; rfl)⟩
    · refine lv_iload_n hx hb d_Reader_endsRowFrom_28 rfl (lv_at hl 0 rfl) ?_
      refine lv_iconst (v := 4) hx hb d_Reader_endsRowFrom_29 (by decide) ?_
      refine lv_icmp_gt (tgt := 37) hx hb d_Reader_endsRowFrom_30 rfl (fun ht5 => ?_) (fun hf6 => ?_)
      · refine lv_iconst (v := 0) hx hb d_Reader_endsRowFrom_37 (by decide) ?_
        exact Ct.zret hx hb hr hnl hW (by decide) (by decide) d_Reader_endsRowFrom_38 (by decide) ⟨by first | rfl | (simp only [eRF, if_neg hf2, if_neg hf4, if_pos ht5]; done) | (simp only [eRF, if_neg hf2, if_neg hf4, if_pos ht5]; rfl), by first | rfl | (simp only [eRF, if_neg hf2, if_neg hf4, if_pos ht5]; done) | (simp only [eRF, if_neg hf2, if_neg hf4, if_pos ht5]; rfl)⟩
      · refine lv_iconst (v := 1) hx hb d_Reader_endsRowFrom_33 (by decide) ?_
        refine lv_goto (tgt := 38) hx hb d_Reader_endsRowFrom_34 rfl ?_
        exact Ct.zret hx hb hr hnl hW (by decide) (by decide) d_Reader_endsRowFrom_38 (by decide) ⟨by first | rfl | (simp only [eRF, if_neg hf2, if_neg hf4, if_neg hf6]; done) | (simp only [eRF, if_neg hf2, if_neg hf4, if_neg hf6]; rfl), by first | rfl | (simp only [eRF, if_neg hf2, if_neg hf4, if_neg hf6]; done) | (simp only [eRF, if_neg hf2, if_neg hf4, if_neg hf6]; rfl)⟩

