/-! letters, decimals, words -/
def o_Tokens_isLetter_r (x : Int32) : Int32 := if x < 97 then 0 else if 122 < x then 0 else 1
abbrev rm_Tokens_isLetter : Room := { frames := 0, cells := 0, slots := 0, locals := 0 }
set_option maxHeartbeats 4000000 in
set_option maxRecDepth 100000 in
theorem c_Tokens_isLetter (l : Launch) (G : Gt) (x : Int32) : Ct l G y_Tokens_isLetter b_Tokens_isLetter 1 (some .boolean) rm_Tokens_isLetter [.int x] [] 0 0 (fun v w' => v = some (.int (o_Tokens_isLetter_r x)) ∧ w' = []) := by
  refine Ct.of (by decide) (Nat.le_of_ble_eq_true rfl) (fun p e s m args below meth c A ls H locs hx hb hml hr hnl hown hts hnm hK hA hl hW => ?_)
  have hl : lv_has ls 1 [(0, .int x)] := hl
  refine lv_iload_n hx hb d_Tokens_isLetter_0 rfl (lv_at hl 0 rfl) ?_
  refine lv_bipush (v := 97) hx hb d_Tokens_isLetter_1 (by decide) ?_
  refine lv_icmp_lt (tgt := 16) hx hb d_Tokens_isLetter_3 rfl (fun ht1 => ?_) (fun hf2 => ?_)
  · refine lv_iconst (v := 0) hx hb d_Tokens_isLetter_16 (by decide) ?_
    exact Ct.zret hx hb hr hnl hW (by decide) (by decide) d_Tokens_isLetter_17 (by decide) ⟨by first | rfl | (simp only [o_Tokens_isLetter_r, if_pos ht1]), by first | rfl | (simp only [o_Tokens_isLetter_r, if_pos ht1])⟩
  · refine lv_iload_n hx hb d_Tokens_isLetter_6 rfl (lv_at hl 0 rfl) ?_
    refine lv_bipush (v := 122) hx hb d_Tokens_isLetter_7 (by decide) ?_
    refine lv_icmp_gt (tgt := 16) hx hb d_Tokens_isLetter_9 rfl (fun ht3 => ?_) (fun hf4 => ?_)
    · refine lv_iconst (v := 0) hx hb d_Tokens_isLetter_16 (by decide) ?_
      exact Ct.zret hx hb hr hnl hW (by decide) (by decide) d_Tokens_isLetter_17 (by decide) ⟨by first | rfl | (simp only [o_Tokens_isLetter_r, if_neg hf2, if_pos ht3]), by first | rfl | (simp only [o_Tokens_isLetter_r, if_neg hf2, if_pos ht3])⟩
    · refine lv_iconst (v := 1) hx hb d_Tokens_isLetter_12 (by decide) ?_
      refine lv_goto (tgt := 17) hx hb d_Tokens_isLetter_13 rfl ?_
      exact Ct.zret hx hb hr hnl hW (by decide) (by decide) d_Tokens_isLetter_17 (by decide) ⟨by first | rfl | (simp only [o_Tokens_isLetter_r, if_neg hf2, if_neg hf4]), by first | rfl | (simp only [o_Tokens_isLetter_r, if_neg hf2, if_neg hf4])⟩

def o_Tokens_isDecimal_r (x : Int32) : Int32 := if x < 48 then 0 else if 57 < x then 0 else 1
abbrev rm_Tokens_isDecimal : Room := { frames := 0, cells := 0, slots := 0, locals := 0 }
set_option maxHeartbeats 4000000 in
set_option maxRecDepth 100000 in
theorem c_Tokens_isDecimal (l : Launch) (G : Gt) (x : Int32) : Ct l G y_Tokens_isDecimal b_Tokens_isDecimal 1 (some .boolean) rm_Tokens_isDecimal [.int x] [] 0 0 (fun v w' => v = some (.int (o_Tokens_isDecimal_r x)) ∧ w' = []) := by
  refine Ct.of (by decide) (Nat.le_of_ble_eq_true rfl) (fun p e s m args below meth c A ls H locs hx hb hml hr hnl hown hts hnm hK hA hl hW => ?_)
  have hl : lv_has ls 1 [(0, .int x)] := hl
  refine lv_iload_n hx hb d_Tokens_isDecimal_0 rfl (lv_at hl 0 rfl) ?_
  refine lv_bipush (v := 48) hx hb d_Tokens_isDecimal_1 (by decide) ?_
  refine lv_icmp_lt (tgt := 16) hx hb d_Tokens_isDecimal_3 rfl (fun ht1 => ?_) (fun hf2 => ?_)
  · refine lv_iconst (v := 0) hx hb d_Tokens_isDecimal_16 (by decide) ?_
    exact Ct.zret hx hb hr hnl hW (by decide) (by decide) d_Tokens_isDecimal_17 (by decide) ⟨by first | rfl | (simp only [o_Tokens_isDecimal_r, if_pos ht1]), by first | rfl | (simp only [o_Tokens_isDecimal_r, if_pos ht1])⟩
  · refine lv_iload_n hx hb d_Tokens_isDecimal_6 rfl (lv_at hl 0 rfl) ?_
    refine lv_bipush (v := 57) hx hb d_Tokens_isDecimal_7 (by decide) ?_
    refine lv_icmp_gt (tgt := 16) hx hb d_Tokens_isDecimal_9 rfl (fun ht3 => ?_) (fun hf4 => ?_)
    · refine lv_iconst (v := 0) hx hb d_Tokens_isDecimal_16 (by decide) ?_
      exact Ct.zret hx hb hr hnl hW (by decide) (by decide) d_Tokens_isDecimal_17 (by decide) ⟨by first | rfl | (simp only [o_Tokens_isDecimal_r, if_neg hf2, if_pos ht3]), by first | rfl | (simp only [o_Tokens_isDecimal_r, if_neg hf2, if_pos ht3])⟩
    · refine lv_iconst (v := 1) hx hb d_Tokens_isDecimal_12 (by decide) ?_
      refine lv_goto (tgt := 17) hx hb d_Tokens_isDecimal_13 rfl ?_
      exact Ct.zret hx hb hr hnl hW (by decide) (by decide) d_Tokens_isDecimal_17 (by decide) ⟨by first | rfl | (simp only [o_Tokens_isDecimal_r, if_neg hf2, if_neg hf4]), by first | rfl | (simp only [o_Tokens_isDecimal_r, if_neg hf2, if_neg hf4])⟩

/-! the text's tokens -/
def wE (f : Nat → Int32) : Nat → Nat → Nat
  | 0, e => e
  | u + 1, e => if o_Tokens_isLetter_r (f e) = 0 then e else wE f u (e + 1)
def nE (f : Nat → Int32) : Nat → Nat → Int32 → Nat × Int32
  | 0, e, n => (e, n)
  | u + 1, e, n => if o_Tokens_isDecimal_r (f e) = 0 then (e, n) else nE f u (e + 1) (10 * n + f e - 48)
def wEnd (f : Nat → Int32) (L e : Nat) : Nat := wE f (L - e) e
def nEnd (f : Nat → Int32) (L e : Nat) : Nat × Int32 := nE f (L - e) e 0
theorem wE_s {f : Nat → Int32} {u e : Nat} (hu : 0 < u) : wE f u e = if o_Tokens_isLetter_r (f e) = 0 then e else wE f (u - 1) (e + 1) := by
  obtain ⟨v, rfl⟩ : ∃ v, u = v + 1 := ⟨u - 1, by omega⟩
  rfl
theorem nE_s {f : Nat → Int32} {u e : Nat} {n : Int32} (hu : 0 < u) : nE f u e n = if o_Tokens_isDecimal_r (f e) = 0 then (e, n) else nE f (u - 1) (e + 1) (10 * n + f e - 48) := by
  obtain ⟨v, rfl⟩ : ∃ v, u = v + 1 := ⟨u - 1, by omega⟩
  rfl
theorem isw_in {b e : Nat} (k : Nat) (h : nI e - nI b = 4) (hbe : b ≤ e) (he : e ≤ 120) (hk : k < 4) : vp_in (nI b + nI k) 120 := by
  have e4 : e = b + 4 := by
    have h2 : nI e = nI (b + 4) := by
      rw [← nI_add]
      have : nI 4 = (4 : Int32) := rfl
      rw [this, ← h, Int32.add_comm, Int32.sub_add_cancel]
    have h3 := congrArg Int32.toNatClampNeg h2
    rw [nI_clamp (by omega), nI_clamp (by omega)] at h3
    exact h3
  rw [nI_add]
  exact vp_in_nI (by omega) (by omega)

def o_Tokens_isWord0_r (b : Nat) (ee : Nat) (f : Nat → Int32) : Int32 := if ((nI ee) - (nI b)) = 4 then if (f (((nI b) + 0).toNatClampNeg)) = (chS 0 0) then if (f (((nI b) + 1).toNatClampNeg)) = (chS 0 1) then if (f (((nI b) + 2).toNatClampNeg)) = (chS 0 2) then if (f (((nI b) + 3).toNatClampNeg)) = (chS 0 3) then 1 else 0 else 0 else 0 else 0 else 0
abbrev rm__Tokens_isWord0 : Room := { frames := 4, cells := 0, slots := 0, locals := 85 }
set_option maxHeartbeats 4000000 in
set_option maxRecDepth 100000 in
theorem cx_Tokens_isWord0 (l : Launch) (G : Gt) (V : Ev) (hfl : l.flags = flags0) (h0 : Nat) (h0t : Nat) (h0k : Nat) (h0b : Nat) (h0v : Nat) (ct : Int32) (b : Nat) (ee : Nat) (f : Nat → Int32) (hbe : b ≤ ee) (he : ee ≤ 120) : CtX l G V y_Tokens_isWord (.code y_Tokens_isWord b_Tokens_isWord 5 (some .boolean)) rm__Tokens_isWord0 [.ref h0, .ref (V.1 0), .int (nI b), .int (nI ee)] [(h0, .inr (11, [.ref h0t, .ref h0k, .ref h0b, .ref h0v, .int ct])), (h0t, .inl (G.2 2, 120, .inl f))] 0 0 (fun o w' => o = .inl (some (.int (o_Tokens_isWord0_r b ee f))) ∧ w' = [(h0, .inr (11, [.ref h0t, .ref h0k, .ref h0b, .ref h0v, .int ct])), (h0t, .inl (G.2 2, 120, .inl f))]) := by
  refine CtX.of HdOf.code (by decide) (Nat.le_of_ble_eq_true rfl) (fun p e s m args below meth c A ls H locs hx hb hml hr hnl hown hts hnm hK hA hl hW hE htab => ?_)
  have hl : lv_has ls 5 [(0, .ref h0), (1, .ref (V.1 0)), (2, .int (nI b)), (3, .int (nI ee))] := hl
  refine lv_iload_n hx hb d_Tokens_isWord_0 rfl (lv_at hl 3 rfl) ?_
  refine lv_iload_n hx hb d_Tokens_isWord_1 rfl (lv_at hl 2 rfl) ?_
  refine lv_isub hx hb d_Tokens_isWord_2 ?_
  refine lv_aload_n hx hb d_Tokens_isWord_3 rfl (lv_at hl 1 rfl) ?_
  refine CtX.callK (i := 0) (As := []) (rest := [.int ((nI ee) - (nI b))]) hx hb hml hown hts hK hE hA hl.1 hW (cx_JString_length l G V hfl 0 (by first | assumption | omega | decide)) (by decide) (hts _ w_ml_Tokens_79) (hts _ w_im_JString_length) (hts _ w_se_JString_length) (hts _ w_ini_JString) (hts _ w_code_JString_length) yd_JString_length.2 [] (by decide) rfl rfl rfl (Nat.le_of_ble_eq_true rfl) d_Tokens_isWord_4 (by decide) (by decide) rfl rfl ⟨by decide, by decide⟩ (fun o w' hp => by rw [hp.2]; exact Nat.le_of_ble_eq_true rfl) (fun v w' H locs hp hW => ?_) (fun X a cell w' H locs hp => absurd hp.1 (fun h => by cases h))
  obtain ⟨hv, rfl⟩ := hp
  cases hv
  have hW : Wd G A s.heap [(h0, .inr (11, [.ref h0t, .ref h0k, .ref h0b, .ref h0v, .int ct])), (h0t, .inl (G.2 2, 120, .inl f))] H locs := hW
  refine W.eq (g2 := F0 m 7 ls [.int (nI (sLen.getD 0 0)), .int ((nI ee) - (nI b))]) rfl ?_
  refine lv_topi (fun cz ez => ?_)
  obtain rfl : cz = 4 := ez.trans (by decide)
  refine lv_icmp_eq (tgt := 12) hx hb d_Tokens_isWord_7 rfl (fun ht1 => ?_) (fun hf2 => ?_)
  · refine lv_iconst (v := 0) hx hb d_Tokens_isWord_12 (by decide) ?_
    refine lv_istore (lv' := [(4, .int 0), (0, .ref h0), (1, .ref (V.1 0)), (2, .int (nI b)), (3, .int (nI ee))]) hx hb d_Tokens_isWord_13 hl (by decide) rfl (fun ls hl => ?_)
    refine lv_iload hx hb d_Tokens_isWord_15 (lv_at hl 0 rfl) ?_
    refine lv_aload_n hx hb d_Tokens_isWord_17 rfl (lv_at hl 2 rfl) ?_
    refine CtX.callK (i := 0) (As := []) (rest := [.int 0]) hx hb hml hown hts hK hE hA hl.1 hW (cx_JString_length l G V hfl 0 (by first | assumption | omega | decide)) (by decide) (hts _ w_ml_Tokens_79) (hts _ w_im_JString_length) (hts _ w_se_JString_length) (hts _ w_ini_JString) (hts _ w_code_JString_length) yd_JString_length.2 [] (by decide) rfl rfl rfl (Nat.le_of_ble_eq_true rfl) d_Tokens_isWord_18 (by decide) (by decide) rfl rfl ⟨by decide, by decide⟩ (fun o w' hp => by rw [hp.2]; exact Nat.le_of_ble_eq_true rfl) (fun v w' H locs hp hW => ?_) (fun X a cell w' H locs hp => absurd hp.1 (fun h => by cases h))
    obtain ⟨hv, rfl⟩ := hp
    cases hv
    have hW : Wd G A s.heap [(h0, .inr (11, [.ref h0t, .ref h0k, .ref h0b, .ref h0v, .int ct])), (h0t, .inl (G.2 2, 120, .inl f))] H locs := hW
    refine W.eq (g2 := F0 m 21 ls [.int (nI (sLen.getD 0 0)), .int 0]) rfl ?_
    refine lv_topi (fun cz ez => ?_)
    obtain rfl : cz = 4 := ez.trans (by decide)
    refine lv_icmp_ge (tgt := 50) hx hb d_Tokens_isWord_21 rfl (fun hz => absurd hz (by decide)) (fun _ => ?_)
    refine lv_aload_n hx hb d_Tokens_isWord_24 rfl (lv_at hl 1 rfl) ?_
    refine Wd.get hx hb hts hown hK hW 0 0 in_Tokens w_fl_Tokens_9 (by decide) d_Tokens_isWord_25 rfl rfl rfl ?_
    refine lv_iload_n hx hb d_Tokens_isWord_28 rfl (lv_at hl 3 rfl) ?_
    refine lv_iload hx hb d_Tokens_isWord_29 (lv_at hl 0 rfl) ?_
    refine lv_iadd hx hb d_Tokens_isWord_31 ?_
    refine Wd.cald hx hb hK hW 1 d_Tokens_isWord_32 rfl (isw_in 0 (by assumption) hbe he (by decide)) ?_
    refine lv_aload_n hx hb d_Tokens_isWord_33 rfl (lv_at hl 2 rfl) ?_
    refine lv_iload hx hb d_Tokens_isWord_34 (lv_at hl 0 rfl) ?_
    refine CtX.callK (i := 0) (As := [.int 0]) (rest := [.int (f (((nI b) + 0).toNatClampNeg))]) hx hb hml hown hts hK hE hA hl.1 hW (cx_JString_charAt l G V hfl 0 0 (by first | assumption | omega | decide) (by decide)) (by decide) (hts _ w_ml_Tokens_83) (hts _ w_im_JString_charAt) (hts _ w_se_JString_charAt) (hts _ w_ini_JString) (hts _ w_code_JString_charAt) yd_JString_charAt.2 [] (by decide) rfl rfl rfl (Nat.le_of_ble_eq_true rfl) d_Tokens_isWord_36 (by decide) (by decide) rfl rfl ⟨by decide, by decide⟩ (fun o w' hp => by rw [hp.2]; exact Nat.le_of_ble_eq_true rfl) (fun v w' H locs hp hW => ?_) (fun X a cell w' H locs hp => absurd hp.1 (fun h => by cases h))
    obtain ⟨hv, rfl⟩ := hp
    cases hv
    have hW : Wd G A s.heap [(h0, .inr (11, [.ref h0t, .ref h0k, .ref h0b, .ref h0v, .int ct])), (h0t, .inl (G.2 2, 120, .inl f))] H locs := hW
    refine W.eq (g2 := F0 m 39 ls [.int (chS 0 0), .int (f (((nI b) + 0).toNatClampNeg))]) rfl ?_
    refine lv_icmp_eq (tgt := 44) hx hb d_Tokens_isWord_39 rfl (fun ht3 => ?_) (fun hf4 => ?_)
    · refine lv_iinc (k := 0) (v := 1) (lv' := [(4, .int 1), (0, .ref h0), (1, .ref (V.1 0)), (2, .int (nI b)), (3, .int (nI ee))]) hx hb d_Tokens_isWord_44 hl rfl (by decide) (by decide) rfl (fun ls hl => ?_)
      refine lv_goto (tgt := 15) hx hb d_Tokens_isWord_47 rfl ?_
      refine lv_iload hx hb d_Tokens_isWord_15 (lv_at hl 0 rfl) ?_
      refine lv_aload_n hx hb d_Tokens_isWord_17 rfl (lv_at hl 2 rfl) ?_
      refine CtX.callK (i := 0) (As := []) (rest := [.int 1]) hx hb hml hown hts hK hE hA hl.1 hW (cx_JString_length l G V hfl 0 (by first | assumption | omega | decide)) (by decide) (hts _ w_ml_Tokens_79) (hts _ w_im_JString_length) (hts _ w_se_JString_length) (hts _ w_ini_JString) (hts _ w_code_JString_length) yd_JString_length.2 [] (by decide) rfl rfl rfl (Nat.le_of_ble_eq_true rfl) d_Tokens_isWord_18 (by decide) (by decide) rfl rfl ⟨by decide, by decide⟩ (fun o w' hp => by rw [hp.2]; exact Nat.le_of_ble_eq_true rfl) (fun v w' H locs hp hW => ?_) (fun X a cell w' H locs hp => absurd hp.1 (fun h => by cases h))
      obtain ⟨hv, rfl⟩ := hp
      cases hv
      have hW : Wd G A s.heap [(h0, .inr (11, [.ref h0t, .ref h0k, .ref h0b, .ref h0v, .int ct])), (h0t, .inl (G.2 2, 120, .inl f))] H locs := hW
      refine W.eq (g2 := F0 m 21 ls [.int (nI (sLen.getD 0 0)), .int 1]) rfl ?_
      refine lv_topi (fun cz ez => ?_)
      obtain rfl : cz = 4 := ez.trans (by decide)
      refine lv_icmp_ge (tgt := 50) hx hb d_Tokens_isWord_21 rfl (fun hz => absurd hz (by decide)) (fun _ => ?_)
      refine lv_aload_n hx hb d_Tokens_isWord_24 rfl (lv_at hl 1 rfl) ?_
      refine Wd.get hx hb hts hown hK hW 0 0 in_Tokens w_fl_Tokens_9 (by decide) d_Tokens_isWord_25 rfl rfl rfl ?_
      refine lv_iload_n hx hb d_Tokens_isWord_28 rfl (lv_at hl 3 rfl) ?_
      refine lv_iload hx hb d_Tokens_isWord_29 (lv_at hl 0 rfl) ?_
      refine lv_iadd hx hb d_Tokens_isWord_31 ?_
      refine Wd.cald hx hb hK hW 1 d_Tokens_isWord_32 rfl (isw_in 1 (by assumption) hbe he (by decide)) ?_
      refine lv_aload_n hx hb d_Tokens_isWord_33 rfl (lv_at hl 2 rfl) ?_
      refine lv_iload hx hb d_Tokens_isWord_34 (lv_at hl 0 rfl) ?_
      refine CtX.callK (i := 0) (As := [.int 1]) (rest := [.int (f (((nI b) + 1).toNatClampNeg))]) hx hb hml hown hts hK hE hA hl.1 hW (cx_JString_charAt l G V hfl 0 1 (by first | assumption | omega | decide) (by decide)) (by decide) (hts _ w_ml_Tokens_83) (hts _ w_im_JString_charAt) (hts _ w_se_JString_charAt) (hts _ w_ini_JString) (hts _ w_code_JString_charAt) yd_JString_charAt.2 [] (by decide) rfl rfl rfl (Nat.le_of_ble_eq_true rfl) d_Tokens_isWord_36 (by decide) (by decide) rfl rfl ⟨by decide, by decide⟩ (fun o w' hp => by rw [hp.2]; exact Nat.le_of_ble_eq_true rfl) (fun v w' H locs hp hW => ?_) (fun X a cell w' H locs hp => absurd hp.1 (fun h => by cases h))
      obtain ⟨hv, rfl⟩ := hp
      cases hv
      have hW : Wd G A s.heap [(h0, .inr (11, [.ref h0t, .ref h0k, .ref h0b, .ref h0v, .int ct])), (h0t, .inl (G.2 2, 120, .inl f))] H locs := hW
      refine W.eq (g2 := F0 m 39 ls [.int (chS 0 1), .int (f (((nI b) + 1).toNatClampNeg))]) rfl ?_
      refine lv_icmp_eq (tgt := 44) hx hb d_Tokens_isWord_39 rfl (fun ht5 => ?_) (fun hf6 => ?_)
      · refine lv_iinc (k := 0) (v := 2) (lv' := [(4, .int 2), (0, .ref h0), (1, .ref (V.1 0)), (2, .int (nI b)), (3, .int (nI ee))]) hx hb d_Tokens_isWord_44 hl rfl (by decide) (by decide) rfl (fun ls hl => ?_)
        refine lv_goto (tgt := 15) hx hb d_Tokens_isWord_47 rfl ?_
        refine lv_iload hx hb d_Tokens_isWord_15 (lv_at hl 0 rfl) ?_
        refine lv_aload_n hx hb d_Tokens_isWord_17 rfl (lv_at hl 2 rfl) ?_
        refine CtX.callK (i := 0) (As := []) (rest := [.int 2]) hx hb hml hown hts hK hE hA hl.1 hW (cx_JString_length l G V hfl 0 (by first | assumption | omega | decide)) (by decide) (hts _ w_ml_Tokens_79) (hts _ w_im_JString_length) (hts _ w_se_JString_length) (hts _ w_ini_JString) (hts _ w_code_JString_length) yd_JString_length.2 [] (by decide) rfl rfl rfl (Nat.le_of_ble_eq_true rfl) d_Tokens_isWord_18 (by decide) (by decide) rfl rfl ⟨by decide, by decide⟩ (fun o w' hp => by rw [hp.2]; exact Nat.le_of_ble_eq_true rfl) (fun v w' H locs hp hW => ?_) (fun X a cell w' H locs hp => absurd hp.1 (fun h => by cases h))
        obtain ⟨hv, rfl⟩ := hp
        cases hv
        have hW : Wd G A s.heap [(h0, .inr (11, [.ref h0t, .ref h0k, .ref h0b, .ref h0v, .int ct])), (h0t, .inl (G.2 2, 120, .inl f))] H locs := hW
        refine W.eq (g2 := F0 m 21 ls [.int (nI (sLen.getD 0 0)), .int 2]) rfl ?_
        refine lv_topi (fun cz ez => ?_)
        obtain rfl : cz = 4 := ez.trans (by decide)
        refine lv_icmp_ge (tgt := 50) hx hb d_Tokens_isWord_21 rfl (fun hz => absurd hz (by decide)) (fun _ => ?_)
        refine lv_aload_n hx hb d_Tokens_isWord_24 rfl (lv_at hl 1 rfl) ?_
        refine Wd.get hx hb hts hown hK hW 0 0 in_Tokens w_fl_Tokens_9 (by decide) d_Tokens_isWord_25 rfl rfl rfl ?_
        refine lv_iload_n hx hb d_Tokens_isWord_28 rfl (lv_at hl 3 rfl) ?_
        refine lv_iload hx hb d_Tokens_isWord_29 (lv_at hl 0 rfl) ?_
        refine lv_iadd hx hb d_Tokens_isWord_31 ?_
        refine Wd.cald hx hb hK hW 1 d_Tokens_isWord_32 rfl (isw_in 2 (by assumption) hbe he (by decide)) ?_
        refine lv_aload_n hx hb d_Tokens_isWord_33 rfl (lv_at hl 2 rfl) ?_
        refine lv_iload hx hb d_Tokens_isWord_34 (lv_at hl 0 rfl) ?_
        refine CtX.callK (i := 0) (As := [.int 2]) (rest := [.int (f (((nI b) + 2).toNatClampNeg))]) hx hb hml hown hts hK hE hA hl.1 hW (cx_JString_charAt l G V hfl 0 2 (by first | assumption | omega | decide) (by decide)) (by decide) (hts _ w_ml_Tokens_83) (hts _ w_im_JString_charAt) (hts _ w_se_JString_charAt) (hts _ w_ini_JString) (hts _ w_code_JString_charAt) yd_JString_charAt.2 [] (by decide) rfl rfl rfl (Nat.le_of_ble_eq_true rfl) d_Tokens_isWord_36 (by decide) (by decide) rfl rfl ⟨by decide, by decide⟩ (fun o w' hp => by rw [hp.2]; exact Nat.le_of_ble_eq_true rfl) (fun v w' H locs hp hW => ?_) (fun X a cell w' H locs hp => absurd hp.1 (fun h => by cases h))
        obtain ⟨hv, rfl⟩ := hp
        cases hv
        have hW : Wd G A s.heap [(h0, .inr (11, [.ref h0t, .ref h0k, .ref h0b, .ref h0v, .int ct])), (h0t, .inl (G.2 2, 120, .inl f))] H locs := hW
        refine W.eq (g2 := F0 m 39 ls [.int (chS 0 2), .int (f (((nI b) + 2).toNatClampNeg))]) rfl ?_
        refine lv_icmp_eq (tgt := 44) hx hb d_Tokens_isWord_39 rfl (fun ht7 => ?_) (fun hf8 => ?_)
        · refine lv_iinc (k := 0) (v := 3) (lv' := [(4, .int 3), (0, .ref h0), (1, .ref (V.1 0)), (2, .int (nI b)), (3, .int (nI ee))]) hx hb d_Tokens_isWord_44 hl rfl (by decide) (by decide) rfl (fun ls hl => ?_)
          refine lv_goto (tgt := 15) hx hb d_Tokens_isWord_47 rfl ?_
          refine lv_iload hx hb d_Tokens_isWord_15 (lv_at hl 0 rfl) ?_
          refine lv_aload_n hx hb d_Tokens_isWord_17 rfl (lv_at hl 2 rfl) ?_
          refine CtX.callK (i := 0) (As := []) (rest := [.int 3]) hx hb hml hown hts hK hE hA hl.1 hW (cx_JString_length l G V hfl 0 (by first | assumption | omega | decide)) (by decide) (hts _ w_ml_Tokens_79) (hts _ w_im_JString_length) (hts _ w_se_JString_length) (hts _ w_ini_JString) (hts _ w_code_JString_length) yd_JString_length.2 [] (by decide) rfl rfl rfl (Nat.le_of_ble_eq_true rfl) d_Tokens_isWord_18 (by decide) (by decide) rfl rfl ⟨by decide, by decide⟩ (fun o w' hp => by rw [hp.2]; exact Nat.le_of_ble_eq_true rfl) (fun v w' H locs hp hW => ?_) (fun X a cell w' H locs hp => absurd hp.1 (fun h => by cases h))
          obtain ⟨hv, rfl⟩ := hp
          cases hv
          have hW : Wd G A s.heap [(h0, .inr (11, [.ref h0t, .ref h0k, .ref h0b, .ref h0v, .int ct])), (h0t, .inl (G.2 2, 120, .inl f))] H locs := hW
          refine W.eq (g2 := F0 m 21 ls [.int (nI (sLen.getD 0 0)), .int 3]) rfl ?_
          refine lv_topi (fun cz ez => ?_)
          obtain rfl : cz = 4 := ez.trans (by decide)
          refine lv_icmp_ge (tgt := 50) hx hb d_Tokens_isWord_21 rfl (fun hz => absurd hz (by decide)) (fun _ => ?_)
          refine lv_aload_n hx hb d_Tokens_isWord_24 rfl (lv_at hl 1 rfl) ?_
          refine Wd.get hx hb hts hown hK hW 0 0 in_Tokens w_fl_Tokens_9 (by decide) d_Tokens_isWord_25 rfl rfl rfl ?_
          refine lv_iload_n hx hb d_Tokens_isWord_28 rfl (lv_at hl 3 rfl) ?_
          refine lv_iload hx hb d_Tokens_isWord_29 (lv_at hl 0 rfl) ?_
          refine lv_iadd hx hb d_Tokens_isWord_31 ?_
          refine Wd.cald hx hb hK hW 1 d_Tokens_isWord_32 rfl (isw_in 3 (by assumption) hbe he (by decide)) ?_
          refine lv_aload_n hx hb d_Tokens_isWord_33 rfl (lv_at hl 2 rfl) ?_
          refine lv_iload hx hb d_Tokens_isWord_34 (lv_at hl 0 rfl) ?_
          refine CtX.callK (i := 0) (As := [.int 3]) (rest := [.int (f (((nI b) + 3).toNatClampNeg))]) hx hb hml hown hts hK hE hA hl.1 hW (cx_JString_charAt l G V hfl 0 3 (by first | assumption | omega | decide) (by decide)) (by decide) (hts _ w_ml_Tokens_83) (hts _ w_im_JString_charAt) (hts _ w_se_JString_charAt) (hts _ w_ini_JString) (hts _ w_code_JString_charAt) yd_JString_charAt.2 [] (by decide) rfl rfl rfl (Nat.le_of_ble_eq_true rfl) d_Tokens_isWord_36 (by decide) (by decide) rfl rfl ⟨by decide, by decide⟩ (fun o w' hp => by rw [hp.2]; exact Nat.le_of_ble_eq_true rfl) (fun v w' H locs hp hW => ?_) (fun X a cell w' H locs hp => absurd hp.1 (fun h => by cases h))
          obtain ⟨hv, rfl⟩ := hp
          cases hv
          have hW : Wd G A s.heap [(h0, .inr (11, [.ref h0t, .ref h0k, .ref h0b, .ref h0v, .int ct])), (h0t, .inl (G.2 2, 120, .inl f))] H locs := hW
          refine W.eq (g2 := F0 m 39 ls [.int (chS 0 3), .int (f (((nI b) + 3).toNatClampNeg))]) rfl ?_
          refine lv_icmp_eq (tgt := 44) hx hb d_Tokens_isWord_39 rfl (fun ht9 => ?_) (fun hf10 => ?_)
          · refine lv_iinc (k := 0) (v := 4) (lv' := [(4, .int 4), (0, .ref h0), (1, .ref (V.1 0)), (2, .int (nI b)), (3, .int (nI ee))]) hx hb d_Tokens_isWord_44 hl rfl (by decide) (by decide) rfl (fun ls hl => ?_)
            refine lv_goto (tgt := 15) hx hb d_Tokens_isWord_47 rfl ?_
            refine lv_iload hx hb d_Tokens_isWord_15 (lv_at hl 0 rfl) ?_
            refine lv_aload_n hx hb d_Tokens_isWord_17 rfl (lv_at hl 2 rfl) ?_
            refine CtX.callK (i := 0) (As := []) (rest := [.int 4]) hx hb hml hown hts hK hE hA hl.1 hW (cx_JString_length l G V hfl 0 (by first | assumption | omega | decide)) (by decide) (hts _ w_ml_Tokens_79) (hts _ w_im_JString_length) (hts _ w_se_JString_length) (hts _ w_ini_JString) (hts _ w_code_JString_length) yd_JString_length.2 [] (by decide) rfl rfl rfl (Nat.le_of_ble_eq_true rfl) d_Tokens_isWord_18 (by decide) (by decide) rfl rfl ⟨by decide, by decide⟩ (fun o w' hp => by rw [hp.2]; exact Nat.le_of_ble_eq_true rfl) (fun v w' H locs hp hW => ?_) (fun X a cell w' H locs hp => absurd hp.1 (fun h => by cases h))
            obtain ⟨hv, rfl⟩ := hp
            cases hv
            have hW : Wd G A s.heap [(h0, .inr (11, [.ref h0t, .ref h0k, .ref h0b, .ref h0v, .int ct])), (h0t, .inl (G.2 2, 120, .inl f))] H locs := hW
            refine W.eq (g2 := F0 m 21 ls [.int (nI (sLen.getD 0 0)), .int 4]) rfl ?_
            refine lv_topi (fun cz ez => ?_)
            obtain rfl : cz = 4 := ez.trans (by decide)
            refine lv_icmp_ge (tgt := 50) hx hb d_Tokens_isWord_21 rfl (fun _ => ?_) (fun hz => absurd (by decide) hz)
            refine lv_iconst (v := 1) hx hb d_Tokens_isWord_50 (by decide) ?_
            exact CtX.zret hx hb hr hnl hW (by decide) (by decide) d_Tokens_isWord_51 (by decide) ⟨by first | rfl | (simp only [o_Tokens_isWord0_r, if_pos ht1, if_pos ht3, if_pos ht5, if_pos ht7, if_pos ht9]), by first | rfl | (simp only [o_Tokens_isWord0_r, if_pos ht1, if_pos ht3, if_pos ht5, if_pos ht7, if_pos ht9])⟩
          · refine lv_iconst (v := 0) hx hb d_Tokens_isWord_42 (by decide) ?_
            exact CtX.zret hx hb hr hnl hW (by decide) (by decide) d_Tokens_isWord_43 (by decide) ⟨by first | rfl | (simp only [o_Tokens_isWord0_r, if_pos ht1, if_pos ht3, if_pos ht5, if_pos ht7, if_neg hf10]), by first | rfl | (simp only [o_Tokens_isWord0_r, if_pos ht1, if_pos ht3, if_pos ht5, if_pos ht7, if_neg hf10])⟩
        · refine lv_iconst (v := 0) hx hb d_Tokens_isWord_42 (by decide) ?_
          exact CtX.zret hx hb hr hnl hW (by decide) (by decide) d_Tokens_isWord_43 (by decide) ⟨by first | rfl | (simp only [o_Tokens_isWord0_r, if_pos ht1, if_pos ht3, if_pos ht5, if_neg hf8]), by first | rfl | (simp only [o_Tokens_isWord0_r, if_pos ht1, if_pos ht3, if_pos ht5, if_neg hf8])⟩
      · refine lv_iconst (v := 0) hx hb d_Tokens_isWord_42 (by decide) ?_
        exact CtX.zret hx hb hr hnl hW (by decide) (by decide) d_Tokens_isWord_43 (by decide) ⟨by first | rfl | (simp only [o_Tokens_isWord0_r, if_pos ht1, if_pos ht3, if_neg hf6]), by first | rfl | (simp only [o_Tokens_isWord0_r, if_pos ht1, if_pos ht3, if_neg hf6])⟩
    · refine lv_iconst (v := 0) hx hb d_Tokens_isWord_42 (by decide) ?_
      exact CtX.zret hx hb hr hnl hW (by decide) (by decide) d_Tokens_isWord_43 (by decide) ⟨by first | rfl | (simp only [o_Tokens_isWord0_r, if_pos ht1, if_neg hf4]), by first | rfl | (simp only [o_Tokens_isWord0_r, if_pos ht1, if_neg hf4])⟩
  · refine lv_iconst (v := 0) hx hb d_Tokens_isWord_10 (by decide) ?_
    exact CtX.zret hx hb hr hnl hW (by decide) (by decide) d_Tokens_isWord_11 (by decide) ⟨by first | rfl | (simp only [o_Tokens_isWord0_r, if_neg hf2]), by first | rfl | (simp only [o_Tokens_isWord0_r, if_neg hf2])⟩

def o_Tokens_isWord1_r (b : Nat) (ee : Nat) (f : Nat → Int32) : Int32 := if ((nI ee) - (nI b)) = 4 then if (f (((nI b) + 0).toNatClampNeg)) = (chS 1 0) then if (f (((nI b) + 1).toNatClampNeg)) = (chS 1 1) then if (f (((nI b) + 2).toNatClampNeg)) = (chS 1 2) then if (f (((nI b) + 3).toNatClampNeg)) = (chS 1 3) then 1 else 0 else 0 else 0 else 0 else 0
abbrev rm__Tokens_isWord1 : Room := { frames := 4, cells := 0, slots := 0, locals := 85 }
set_option maxHeartbeats 4000000 in
set_option maxRecDepth 100000 in
theorem cx_Tokens_isWord1 (l : Launch) (G : Gt) (V : Ev) (hfl : l.flags = flags0) (h0 : Nat) (h0t : Nat) (h0k : Nat) (h0b : Nat) (h0v : Nat) (ct : Int32) (b : Nat) (ee : Nat) (f : Nat → Int32) (hbe : b ≤ ee) (he : ee ≤ 120) : CtX l G V y_Tokens_isWord (.code y_Tokens_isWord b_Tokens_isWord 5 (some .boolean)) rm__Tokens_isWord1 [.ref h0, .ref (V.1 1), .int (nI b), .int (nI ee)] [(h0, .inr (11, [.ref h0t, .ref h0k, .ref h0b, .ref h0v, .int ct])), (h0t, .inl (G.2 2, 120, .inl f))] 0 0 (fun o w' => o = .inl (some (.int (o_Tokens_isWord1_r b ee f))) ∧ w' = [(h0, .inr (11, [.ref h0t, .ref h0k, .ref h0b, .ref h0v, .int ct])), (h0t, .inl (G.2 2, 120, .inl f))]) := by
  refine CtX.of HdOf.code (by decide) (Nat.le_of_ble_eq_true rfl) (fun p e s m args below meth c A ls H locs hx hb hml hr hnl hown hts hnm hK hA hl hW hE htab => ?_)
  have hl : lv_has ls 5 [(0, .ref h0), (1, .ref (V.1 1)), (2, .int (nI b)), (3, .int (nI ee))] := hl
  refine lv_iload_n hx hb d_Tokens_isWord_0 rfl (lv_at hl 3 rfl) ?_
  refine lv_iload_n hx hb d_Tokens_isWord_1 rfl (lv_at hl 2 rfl) ?_
  refine lv_isub hx hb d_Tokens_isWord_2 ?_
  refine lv_aload_n hx hb d_Tokens_isWord_3 rfl (lv_at hl 1 rfl) ?_
  refine CtX.callK (i := 1) (As := []) (rest := [.int ((nI ee) - (nI b))]) hx hb hml hown hts hK hE hA hl.1 hW (cx_JString_length l G V hfl 1 (by first | assumption | omega | decide)) (by decide) (hts _ w_ml_Tokens_79) (hts _ w_im_JString_length) (hts _ w_se_JString_length) (hts _ w_ini_JString) (hts _ w_code_JString_length) yd_JString_length.2 [] (by decide) rfl rfl rfl (Nat.le_of_ble_eq_true rfl) d_Tokens_isWord_4 (by decide) (by decide) rfl rfl ⟨by decide, by decide⟩ (fun o w' hp => by rw [hp.2]; exact Nat.le_of_ble_eq_true rfl) (fun v w' H locs hp hW => ?_) (fun X a cell w' H locs hp => absurd hp.1 (fun h => by cases h))
  obtain ⟨hv, rfl⟩ := hp
  cases hv
  have hW : Wd G A s.heap [(h0, .inr (11, [.ref h0t, .ref h0k, .ref h0b, .ref h0v, .int ct])), (h0t, .inl (G.2 2, 120, .inl f))] H locs := hW
  refine W.eq (g2 := F0 m 7 ls [.int (nI (sLen.getD 1 0)), .int ((nI ee) - (nI b))]) rfl ?_
  refine lv_topi (fun cz ez => ?_)
  obtain rfl : cz = 4 := ez.trans (by decide)
  refine lv_icmp_eq (tgt := 12) hx hb d_Tokens_isWord_7 rfl (fun ht1 => ?_) (fun hf2 => ?_)
  · refine lv_iconst (v := 0) hx hb d_Tokens_isWord_12 (by decide) ?_
    refine lv_istore (lv' := [(4, .int 0), (0, .ref h0), (1, .ref (V.1 1)), (2, .int (nI b)), (3, .int (nI ee))]) hx hb d_Tokens_isWord_13 hl (by decide) rfl (fun ls hl => ?_)
    refine lv_iload hx hb d_Tokens_isWord_15 (lv_at hl 0 rfl) ?_
    refine lv_aload_n hx hb d_Tokens_isWord_17 rfl (lv_at hl 2 rfl) ?_
    refine CtX.callK (i := 1) (As := []) (rest := [.int 0]) hx hb hml hown hts hK hE hA hl.1 hW (cx_JString_length l G V hfl 1 (by first | assumption | omega | decide)) (by decide) (hts _ w_ml_Tokens_79) (hts _ w_im_JString_length) (hts _ w_se_JString_length) (hts _ w_ini_JString) (hts _ w_code_JString_length) yd_JString_length.2 [] (by decide) rfl rfl rfl (Nat.le_of_ble_eq_true rfl) d_Tokens_isWord_18 (by decide) (by decide) rfl rfl ⟨by decide, by decide⟩ (fun o w' hp => by rw [hp.2]; exact Nat.le_of_ble_eq_true rfl) (fun v w' H locs hp hW => ?_) (fun X a cell w' H locs hp => absurd hp.1 (fun h => by cases h))
    obtain ⟨hv, rfl⟩ := hp
    cases hv
    have hW : Wd G A s.heap [(h0, .inr (11, [.ref h0t, .ref h0k, .ref h0b, .ref h0v, .int ct])), (h0t, .inl (G.2 2, 120, .inl f))] H locs := hW
    refine W.eq (g2 := F0 m 21 ls [.int (nI (sLen.getD 1 0)), .int 0]) rfl ?_
    refine lv_topi (fun cz ez => ?_)
    obtain rfl : cz = 4 := ez.trans (by decide)
    refine lv_icmp_ge (tgt := 50) hx hb d_Tokens_isWord_21 rfl (fun hz => absurd hz (by decide)) (fun _ => ?_)
    refine lv_aload_n hx hb d_Tokens_isWord_24 rfl (lv_at hl 1 rfl) ?_
    refine Wd.get hx hb hts hown hK hW 0 0 in_Tokens w_fl_Tokens_9 (by decide) d_Tokens_isWord_25 rfl rfl rfl ?_
    refine lv_iload_n hx hb d_Tokens_isWord_28 rfl (lv_at hl 3 rfl) ?_
    refine lv_iload hx hb d_Tokens_isWord_29 (lv_at hl 0 rfl) ?_
    refine lv_iadd hx hb d_Tokens_isWord_31 ?_
    refine Wd.cald hx hb hK hW 1 d_Tokens_isWord_32 rfl (isw_in 0 (by assumption) hbe he (by decide)) ?_
    refine lv_aload_n hx hb d_Tokens_isWord_33 rfl (lv_at hl 2 rfl) ?_
    refine lv_iload hx hb d_Tokens_isWord_34 (lv_at hl 0 rfl) ?_
    refine CtX.callK (i := 1) (As := [.int 0]) (rest := [.int (f (((nI b) + 0).toNatClampNeg))]) hx hb hml hown hts hK hE hA hl.1 hW (cx_JString_charAt l G V hfl 1 0 (by first | assumption | omega | decide) (by decide)) (by decide) (hts _ w_ml_Tokens_83) (hts _ w_im_JString_charAt) (hts _ w_se_JString_charAt) (hts _ w_ini_JString) (hts _ w_code_JString_charAt) yd_JString_charAt.2 [] (by decide) rfl rfl rfl (Nat.le_of_ble_eq_true rfl) d_Tokens_isWord_36 (by decide) (by decide) rfl rfl ⟨by decide, by decide⟩ (fun o w' hp => by rw [hp.2]; exact Nat.le_of_ble_eq_true rfl) (fun v w' H locs hp hW => ?_) (fun X a cell w' H locs hp => absurd hp.1 (fun h => by cases h))
    obtain ⟨hv, rfl⟩ := hp
    cases hv
    have hW : Wd G A s.heap [(h0, .inr (11, [.ref h0t, .ref h0k, .ref h0b, .ref h0v, .int ct])), (h0t, .inl (G.2 2, 120, .inl f))] H locs := hW
    refine W.eq (g2 := F0 m 39 ls [.int (chS 1 0), .int (f (((nI b) + 0).toNatClampNeg))]) rfl ?_
    refine lv_icmp_eq (tgt := 44) hx hb d_Tokens_isWord_39 rfl (fun ht3 => ?_) (fun hf4 => ?_)
    · refine lv_iinc (k := 0) (v := 1) (lv' := [(4, .int 1), (0, .ref h0), (1, .ref (V.1 1)), (2, .int (nI b)), (3, .int (nI ee))]) hx hb d_Tokens_isWord_44 hl rfl (by decide) (by decide) rfl (fun ls hl => ?_)
      refine lv_goto (tgt := 15) hx hb d_Tokens_isWord_47 rfl ?_
      refine lv_iload hx hb d_Tokens_isWord_15 (lv_at hl 0 rfl) ?_
      refine lv_aload_n hx hb d_Tokens_isWord_17 rfl (lv_at hl 2 rfl) ?_
      refine CtX.callK (i := 1) (As := []) (rest := [.int 1]) hx hb hml hown hts hK hE hA hl.1 hW (cx_JString_length l G V hfl 1 (by first | assumption | omega | decide)) (by decide) (hts _ w_ml_Tokens_79) (hts _ w_im_JString_length) (hts _ w_se_JString_length) (hts _ w_ini_JString) (hts _ w_code_JString_length) yd_JString_length.2 [] (by decide) rfl rfl rfl (Nat.le_of_ble_eq_true rfl) d_Tokens_isWord_18 (by decide) (by decide) rfl rfl ⟨by decide, by decide⟩ (fun o w' hp => by rw [hp.2]; exact Nat.le_of_ble_eq_true rfl) (fun v w' H locs hp hW => ?_) (fun X a cell w' H locs hp => absurd hp.1 (fun h => by cases h))
      obtain ⟨hv, rfl⟩ := hp
      cases hv
      have hW : Wd G A s.heap [(h0, .inr (11, [.ref h0t, .ref h0k, .ref h0b, .ref h0v, .int ct])), (h0t, .inl (G.2 2, 120, .inl f))] H locs := hW
      refine W.eq (g2 := F0 m 21 ls [.int (nI (sLen.getD 1 0)), .int 1]) rfl ?_
      refine lv_topi (fun cz ez => ?_)
      obtain rfl : cz = 4 := ez.trans (by decide)
      refine lv_icmp_ge (tgt := 50) hx hb d_Tokens_isWord_21 rfl (fun hz => absurd hz (by decide)) (fun _ => ?_)
      refine lv_aload_n hx hb d_Tokens_isWord_24 rfl (lv_at hl 1 rfl) ?_
      refine Wd.get hx hb hts hown hK hW 0 0 in_Tokens w_fl_Tokens_9 (by decide) d_Tokens_isWord_25 rfl rfl rfl ?_
      refine lv_iload_n hx hb d_Tokens_isWord_28 rfl (lv_at hl 3 rfl) ?_
      refine lv_iload hx hb d_Tokens_isWord_29 (lv_at hl 0 rfl) ?_
      refine lv_iadd hx hb d_Tokens_isWord_31 ?_
      refine Wd.cald hx hb hK hW 1 d_Tokens_isWord_32 rfl (isw_in 1 (by assumption) hbe he (by decide)) ?_
      refine lv_aload_n hx hb d_Tokens_isWord_33 rfl (lv_at hl 2 rfl) ?_
      refine lv_iload hx hb d_Tokens_isWord_34 (lv_at hl 0 rfl) ?_
      refine CtX.callK (i := 1) (As := [.int 1]) (rest := [.int (f (((nI b) + 1).toNatClampNeg))]) hx hb hml hown hts hK hE hA hl.1 hW (cx_JString_charAt l G V hfl 1 1 (by first | assumption | omega | decide) (by decide)) (by decide) (hts _ w_ml_Tokens_83) (hts _ w_im_JString_charAt) (hts _ w_se_JString_charAt) (hts _ w_ini_JString) (hts _ w_code_JString_charAt) yd_JString_charAt.2 [] (by decide) rfl rfl rfl (Nat.le_of_ble_eq_true rfl) d_Tokens_isWord_36 (by decide) (by decide) rfl rfl ⟨by decide, by decide⟩ (fun o w' hp => by rw [hp.2]; exact Nat.le_of_ble_eq_true rfl) (fun v w' H locs hp hW => ?_) (fun X a cell w' H locs hp => absurd hp.1 (fun h => by cases h))
      obtain ⟨hv, rfl⟩ := hp
      cases hv
      have hW : Wd G A s.heap [(h0, .inr (11, [.ref h0t, .ref h0k, .ref h0b, .ref h0v, .int ct])), (h0t, .inl (G.2 2, 120, .inl f))] H locs := hW
      refine W.eq (g2 := F0 m 39 ls [.int (chS 1 1), .int (f (((nI b) + 1).toNatClampNeg))]) rfl ?_
      refine lv_icmp_eq (tgt := 44) hx hb d_Tokens_isWord_39 rfl (fun ht5 => ?_) (fun hf6 => ?_)
      · refine lv_iinc (k := 0) (v := 2) (lv' := [(4, .int 2), (0, .ref h0), (1, .ref (V.1 1)), (2, .int (nI b)), (3, .int (nI ee))]) hx hb d_Tokens_isWord_44 hl rfl (by decide) (by decide) rfl (fun ls hl => ?_)
        refine lv_goto (tgt := 15) hx hb d_Tokens_isWord_47 rfl ?_
        refine lv_iload hx hb d_Tokens_isWord_15 (lv_at hl 0 rfl) ?_
        refine lv_aload_n hx hb d_Tokens_isWord_17 rfl (lv_at hl 2 rfl) ?_
        refine CtX.callK (i := 1) (As := []) (rest := [.int 2]) hx hb hml hown hts hK hE hA hl.1 hW (cx_JString_length l G V hfl 1 (by first | assumption | omega | decide)) (by decide) (hts _ w_ml_Tokens_79) (hts _ w_im_JString_length) (hts _ w_se_JString_length) (hts _ w_ini_JString) (hts _ w_code_JString_length) yd_JString_length.2 [] (by decide) rfl rfl rfl (Nat.le_of_ble_eq_true rfl) d_Tokens_isWord_18 (by decide) (by decide) rfl rfl ⟨by decide, by decide⟩ (fun o w' hp => by rw [hp.2]; exact Nat.le_of_ble_eq_true rfl) (fun v w' H locs hp hW => ?_) (fun X a cell w' H locs hp => absurd hp.1 (fun h => by cases h))
        obtain ⟨hv, rfl⟩ := hp
        cases hv
        have hW : Wd G A s.heap [(h0, .inr (11, [.ref h0t, .ref h0k, .ref h0b, .ref h0v, .int ct])), (h0t, .inl (G.2 2, 120, .inl f))] H locs := hW
        refine W.eq (g2 := F0 m 21 ls [.int (nI (sLen.getD 1 0)), .int 2]) rfl ?_
        refine lv_topi (fun cz ez => ?_)
        obtain rfl : cz = 4 := ez.trans (by decide)
        refine lv_icmp_ge (tgt := 50) hx hb d_Tokens_isWord_21 rfl (fun hz => absurd hz (by decide)) (fun _ => ?_)
        refine lv_aload_n hx hb d_Tokens_isWord_24 rfl (lv_at hl 1 rfl) ?_
        refine Wd.get hx hb hts hown hK hW 0 0 in_Tokens w_fl_Tokens_9 (by decide) d_Tokens_isWord_25 rfl rfl rfl ?_
        refine lv_iload_n hx hb d_Tokens_isWord_28 rfl (lv_at hl 3 rfl) ?_
        refine lv_iload hx hb d_Tokens_isWord_29 (lv_at hl 0 rfl) ?_
        refine lv_iadd hx hb d_Tokens_isWord_31 ?_
        refine Wd.cald hx hb hK hW 1 d_Tokens_isWord_32 rfl (isw_in 2 (by assumption) hbe he (by decide)) ?_
        refine lv_aload_n hx hb d_Tokens_isWord_33 rfl (lv_at hl 2 rfl) ?_
        refine lv_iload hx hb d_Tokens_isWord_34 (lv_at hl 0 rfl) ?_
        refine CtX.callK (i := 1) (As := [.int 2]) (rest := [.int (f (((nI b) + 2).toNatClampNeg))]) hx hb hml hown hts hK hE hA hl.1 hW (cx_JString_charAt l G V hfl 1 2 (by first | assumption | omega | decide) (by decide)) (by decide) (hts _ w_ml_Tokens_83) (hts _ w_im_JString_charAt) (hts _ w_se_JString_charAt) (hts _ w_ini_JString) (hts _ w_code_JString_charAt) yd_JString_charAt.2 [] (by decide) rfl rfl rfl (Nat.le_of_ble_eq_true rfl) d_Tokens_isWord_36 (by decide) (by decide) rfl rfl ⟨by decide, by decide⟩ (fun o w' hp => by rw [hp.2]; exact Nat.le_of_ble_eq_true rfl) (fun v w' H locs hp hW => ?_) (fun X a cell w' H locs hp => absurd hp.1 (fun h => by cases h))
        obtain ⟨hv, rfl⟩ := hp
        cases hv
        have hW : Wd G A s.heap [(h0, .inr (11, [.ref h0t, .ref h0k, .ref h0b, .ref h0v, .int ct])), (h0t, .inl (G.2 2, 120, .inl f))] H locs := hW
        refine W.eq (g2 := F0 m 39 ls [.int (chS 1 2), .int (f (((nI b) + 2).toNatClampNeg))]) rfl ?_
        refine lv_icmp_eq (tgt := 44) hx hb d_Tokens_isWord_39 rfl (fun ht7 => ?_) (fun hf8 => ?_)
        · refine lv_iinc (k := 0) (v := 3) (lv' := [(4, .int 3), (0, .ref h0), (1, .ref (V.1 1)), (2, .int (nI b)), (3, .int (nI ee))]) hx hb d_Tokens_isWord_44 hl rfl (by decide) (by decide) rfl (fun ls hl => ?_)
          refine lv_goto (tgt := 15) hx hb d_Tokens_isWord_47 rfl ?_
          refine lv_iload hx hb d_Tokens_isWord_15 (lv_at hl 0 rfl) ?_
          refine lv_aload_n hx hb d_Tokens_isWord_17 rfl (lv_at hl 2 rfl) ?_
          refine CtX.callK (i := 1) (As := []) (rest := [.int 3]) hx hb hml hown hts hK hE hA hl.1 hW (cx_JString_length l G V hfl 1 (by first | assumption | omega | decide)) (by decide) (hts _ w_ml_Tokens_79) (hts _ w_im_JString_length) (hts _ w_se_JString_length) (hts _ w_ini_JString) (hts _ w_code_JString_length) yd_JString_length.2 [] (by decide) rfl rfl rfl (Nat.le_of_ble_eq_true rfl) d_Tokens_isWord_18 (by decide) (by decide) rfl rfl ⟨by decide, by decide⟩ (fun o w' hp => by rw [hp.2]; exact Nat.le_of_ble_eq_true rfl) (fun v w' H locs hp hW => ?_) (fun X a cell w' H locs hp => absurd hp.1 (fun h => by cases h))
          obtain ⟨hv, rfl⟩ := hp
          cases hv
          have hW : Wd G A s.heap [(h0, .inr (11, [.ref h0t, .ref h0k, .ref h0b, .ref h0v, .int ct])), (h0t, .inl (G.2 2, 120, .inl f))] H locs := hW
          refine W.eq (g2 := F0 m 21 ls [.int (nI (sLen.getD 1 0)), .int 3]) rfl ?_
          refine lv_topi (fun cz ez => ?_)
          obtain rfl : cz = 4 := ez.trans (by decide)
          refine lv_icmp_ge (tgt := 50) hx hb d_Tokens_isWord_21 rfl (fun hz => absurd hz (by decide)) (fun _ => ?_)
          refine lv_aload_n hx hb d_Tokens_isWord_24 rfl (lv_at hl 1 rfl) ?_
          refine Wd.get hx hb hts hown hK hW 0 0 in_Tokens w_fl_Tokens_9 (by decide) d_Tokens_isWord_25 rfl rfl rfl ?_
          refine lv_iload_n hx hb d_Tokens_isWord_28 rfl (lv_at hl 3 rfl) ?_
          refine lv_iload hx hb d_Tokens_isWord_29 (lv_at hl 0 rfl) ?_
          refine lv_iadd hx hb d_Tokens_isWord_31 ?_
          refine Wd.cald hx hb hK hW 1 d_Tokens_isWord_32 rfl (isw_in 3 (by assumption) hbe he (by decide)) ?_
          refine lv_aload_n hx hb d_Tokens_isWord_33 rfl (lv_at hl 2 rfl) ?_
          refine lv_iload hx hb d_Tokens_isWord_34 (lv_at hl 0 rfl) ?_
          refine CtX.callK (i := 1) (As := [.int 3]) (rest := [.int (f (((nI b) + 3).toNatClampNeg))]) hx hb hml hown hts hK hE hA hl.1 hW (cx_JString_charAt l G V hfl 1 3 (by first | assumption | omega | decide) (by decide)) (by decide) (hts _ w_ml_Tokens_83) (hts _ w_im_JString_charAt) (hts _ w_se_JString_charAt) (hts _ w_ini_JString) (hts _ w_code_JString_charAt) yd_JString_charAt.2 [] (by decide) rfl rfl rfl (Nat.le_of_ble_eq_true rfl) d_Tokens_isWord_36 (by decide) (by decide) rfl rfl ⟨by decide, by decide⟩ (fun o w' hp => by rw [hp.2]; exact Nat.le_of_ble_eq_true rfl) (fun v w' H locs hp hW => ?_) (fun X a cell w' H locs hp => absurd hp.1 (fun h => by cases h))
          obtain ⟨hv, rfl⟩ := hp
          cases hv
          have hW : Wd G A s.heap [(h0, .inr (11, [.ref h0t, .ref h0k, .ref h0b, .ref h0v, .int ct])), (h0t, .inl (G.2 2, 120, .inl f))] H locs := hW
          refine W.eq (g2 := F0 m 39 ls [.int (chS 1 3), .int (f (((nI b) + 3).toNatClampNeg))]) rfl ?_
          refine lv_icmp_eq (tgt := 44) hx hb d_Tokens_isWord_39 rfl (fun ht9 => ?_) (fun hf10 => ?_)
          · refine lv_iinc (k := 0) (v := 4) (lv' := [(4, .int 4), (0, .ref h0), (1, .ref (V.1 1)), (2, .int (nI b)), (3, .int (nI ee))]) hx hb d_Tokens_isWord_44 hl rfl (by decide) (by decide) rfl (fun ls hl => ?_)
            refine lv_goto (tgt := 15) hx hb d_Tokens_isWord_47 rfl ?_
            refine lv_iload hx hb d_Tokens_isWord_15 (lv_at hl 0 rfl) ?_
            refine lv_aload_n hx hb d_Tokens_isWord_17 rfl (lv_at hl 2 rfl) ?_
            refine CtX.callK (i := 1) (As := []) (rest := [.int 4]) hx hb hml hown hts hK hE hA hl.1 hW (cx_JString_length l G V hfl 1 (by first | assumption | omega | decide)) (by decide) (hts _ w_ml_Tokens_79) (hts _ w_im_JString_length) (hts _ w_se_JString_length) (hts _ w_ini_JString) (hts _ w_code_JString_length) yd_JString_length.2 [] (by decide) rfl rfl rfl (Nat.le_of_ble_eq_true rfl) d_Tokens_isWord_18 (by decide) (by decide) rfl rfl ⟨by decide, by decide⟩ (fun o w' hp => by rw [hp.2]; exact Nat.le_of_ble_eq_true rfl) (fun v w' H locs hp hW => ?_) (fun X a cell w' H locs hp => absurd hp.1 (fun h => by cases h))
            obtain ⟨hv, rfl⟩ := hp
            cases hv
            have hW : Wd G A s.heap [(h0, .inr (11, [.ref h0t, .ref h0k, .ref h0b, .ref h0v, .int ct])), (h0t, .inl (G.2 2, 120, .inl f))] H locs := hW
            refine W.eq (g2 := F0 m 21 ls [.int (nI (sLen.getD 1 0)), .int 4]) rfl ?_
            refine lv_topi (fun cz ez => ?_)
            obtain rfl : cz = 4 := ez.trans (by decide)
            refine lv_icmp_ge (tgt := 50) hx hb d_Tokens_isWord_21 rfl (fun _ => ?_) (fun hz => absurd (by decide) hz)
            refine lv_iconst (v := 1) hx hb d_Tokens_isWord_50 (by decide) ?_
            exact CtX.zret hx hb hr hnl hW (by decide) (by decide) d_Tokens_isWord_51 (by decide) ⟨by first | rfl | (simp only [o_Tokens_isWord1_r, if_pos ht1, if_pos ht3, if_pos ht5, if_pos ht7, if_pos ht9]), by first | rfl | (simp only [o_Tokens_isWord1_r, if_pos ht1, if_pos ht3, if_pos ht5, if_pos ht7, if_pos ht9])⟩
          · refine lv_iconst (v := 0) hx hb d_Tokens_isWord_42 (by decide) ?_
            exact CtX.zret hx hb hr hnl hW (by decide) (by decide) d_Tokens_isWord_43 (by decide) ⟨by first | rfl | (simp only [o_Tokens_isWord1_r, if_pos ht1, if_pos ht3, if_pos ht5, if_pos ht7, if_neg hf10]), by first | rfl | (simp only [o_Tokens_isWord1_r, if_pos ht1, if_pos ht3, if_pos ht5, if_pos ht7, if_neg hf10])⟩
        · refine lv_iconst (v := 0) hx hb d_Tokens_isWord_42 (by decide) ?_
          exact CtX.zret hx hb hr hnl hW (by decide) (by decide) d_Tokens_isWord_43 (by decide) ⟨by first | rfl | (simp only [o_Tokens_isWord1_r, if_pos ht1, if_pos ht3, if_pos ht5, if_neg hf8]), by first | rfl | (simp only [o_Tokens_isWord1_r, if_pos ht1, if_pos ht3, if_pos ht5, if_neg hf8])⟩
      · refine lv_iconst (v := 0) hx hb d_Tokens_isWord_42 (by decide) ?_
        exact CtX.zret hx hb hr hnl hW (by decide) (by decide) d_Tokens_isWord_43 (by decide) ⟨by first | rfl | (simp only [o_Tokens_isWord1_r, if_pos ht1, if_pos ht3, if_neg hf6]), by first | rfl | (simp only [o_Tokens_isWord1_r, if_pos ht1, if_pos ht3, if_neg hf6])⟩
    · refine lv_iconst (v := 0) hx hb d_Tokens_isWord_42 (by decide) ?_
      exact CtX.zret hx hb hr hnl hW (by decide) (by decide) d_Tokens_isWord_43 (by decide) ⟨by first | rfl | (simp only [o_Tokens_isWord1_r, if_pos ht1, if_neg hf4]), by first | rfl | (simp only [o_Tokens_isWord1_r, if_pos ht1, if_neg hf4])⟩
  · refine lv_iconst (v := 0) hx hb d_Tokens_isWord_10 (by decide) ?_
    exact CtX.zret hx hb hr hnl hW (by decide) (by decide) d_Tokens_isWord_11 (by decide) ⟨by first | rfl | (simp only [o_Tokens_isWord1_r, if_neg hf2]), by first | rfl | (simp only [o_Tokens_isWord1_r, if_neg hf2])⟩

def o_Tokens_isWord2_r (b : Nat) (ee : Nat) (f : Nat → Int32) : Int32 := if ((nI ee) - (nI b)) = 4 then if (f (((nI b) + 0).toNatClampNeg)) = (chS 2 0) then if (f (((nI b) + 1).toNatClampNeg)) = (chS 2 1) then if (f (((nI b) + 2).toNatClampNeg)) = (chS 2 2) then if (f (((nI b) + 3).toNatClampNeg)) = (chS 2 3) then 1 else 0 else 0 else 0 else 0 else 0
abbrev rm__Tokens_isWord2 : Room := { frames := 4, cells := 0, slots := 0, locals := 85 }
set_option maxHeartbeats 4000000 in
set_option maxRecDepth 100000 in
theorem cx_Tokens_isWord2 (l : Launch) (G : Gt) (V : Ev) (hfl : l.flags = flags0) (h0 : Nat) (h0t : Nat) (h0k : Nat) (h0b : Nat) (h0v : Nat) (ct : Int32) (b : Nat) (ee : Nat) (f : Nat → Int32) (hbe : b ≤ ee) (he : ee ≤ 120) : CtX l G V y_Tokens_isWord (.code y_Tokens_isWord b_Tokens_isWord 5 (some .boolean)) rm__Tokens_isWord2 [.ref h0, .ref (V.1 2), .int (nI b), .int (nI ee)] [(h0, .inr (11, [.ref h0t, .ref h0k, .ref h0b, .ref h0v, .int ct])), (h0t, .inl (G.2 2, 120, .inl f))] 0 0 (fun o w' => o = .inl (some (.int (o_Tokens_isWord2_r b ee f))) ∧ w' = [(h0, .inr (11, [.ref h0t, .ref h0k, .ref h0b, .ref h0v, .int ct])), (h0t, .inl (G.2 2, 120, .inl f))]) := by
  refine CtX.of HdOf.code (by decide) (Nat.le_of_ble_eq_true rfl) (fun p e s m args below meth c A ls H locs hx hb hml hr hnl hown hts hnm hK hA hl hW hE htab => ?_)
  have hl : lv_has ls 5 [(0, .ref h0), (1, .ref (V.1 2)), (2, .int (nI b)), (3, .int (nI ee))] := hl
  refine lv_iload_n hx hb d_Tokens_isWord_0 rfl (lv_at hl 3 rfl) ?_
  refine lv_iload_n hx hb d_Tokens_isWord_1 rfl (lv_at hl 2 rfl) ?_
  refine lv_isub hx hb d_Tokens_isWord_2 ?_
  refine lv_aload_n hx hb d_Tokens_isWord_3 rfl (lv_at hl 1 rfl) ?_
  refine CtX.callK (i := 2) (As := []) (rest := [.int ((nI ee) - (nI b))]) hx hb hml hown hts hK hE hA hl.1 hW (cx_JString_length l G V hfl 2 (by first | assumption | omega | decide)) (by decide) (hts _ w_ml_Tokens_79) (hts _ w_im_JString_length) (hts _ w_se_JString_length) (hts _ w_ini_JString) (hts _ w_code_JString_length) yd_JString_length.2 [] (by decide) rfl rfl rfl (Nat.le_of_ble_eq_true rfl) d_Tokens_isWord_4 (by decide) (by decide) rfl rfl ⟨by decide, by decide⟩ (fun o w' hp => by rw [hp.2]; exact Nat.le_of_ble_eq_true rfl) (fun v w' H locs hp hW => ?_) (fun X a cell w' H locs hp => absurd hp.1 (fun h => by cases h))
  obtain ⟨hv, rfl⟩ := hp
  cases hv
  have hW : Wd G A s.heap [(h0, .inr (11, [.ref h0t, .ref h0k, .ref h0b, .ref h0v, .int ct])), (h0t, .inl (G.2 2, 120, .inl f))] H locs := hW
  refine W.eq (g2 := F0 m 7 ls [.int (nI (sLen.getD 2 0)), .int ((nI ee) - (nI b))]) rfl ?_
  refine lv_topi (fun cz ez => ?_)
  obtain rfl : cz = 4 := ez.trans (by decide)
  refine lv_icmp_eq (tgt := 12) hx hb d_Tokens_isWord_7 rfl (fun ht1 => ?_) (fun hf2 => ?_)
  · refine lv_iconst (v := 0) hx hb d_Tokens_isWord_12 (by decide) ?_
    refine lv_istore (lv' := [(4, .int 0), (0, .ref h0), (1, .ref (V.1 2)), (2, .int (nI b)), (3, .int (nI ee))]) hx hb d_Tokens_isWord_13 hl (by decide) rfl (fun ls hl => ?_)
    refine lv_iload hx hb d_Tokens_isWord_15 (lv_at hl 0 rfl) ?_
    refine lv_aload_n hx hb d_Tokens_isWord_17 rfl (lv_at hl 2 rfl) ?_
    refine CtX.callK (i := 2) (As := []) (rest := [.int 0]) hx hb hml hown hts hK hE hA hl.1 hW (cx_JString_length l G V hfl 2 (by first | assumption | omega | decide)) (by decide) (hts _ w_ml_Tokens_79) (hts _ w_im_JString_length) (hts _ w_se_JString_length) (hts _ w_ini_JString) (hts _ w_code_JString_length) yd_JString_length.2 [] (by decide) rfl rfl rfl (Nat.le_of_ble_eq_true rfl) d_Tokens_isWord_18 (by decide) (by decide) rfl rfl ⟨by decide, by decide⟩ (fun o w' hp => by rw [hp.2]; exact Nat.le_of_ble_eq_true rfl) (fun v w' H locs hp hW => ?_) (fun X a cell w' H locs hp => absurd hp.1 (fun h => by cases h))
    obtain ⟨hv, rfl⟩ := hp
    cases hv
    have hW : Wd G A s.heap [(h0, .inr (11, [.ref h0t, .ref h0k, .ref h0b, .ref h0v, .int ct])), (h0t, .inl (G.2 2, 120, .inl f))] H locs := hW
    refine W.eq (g2 := F0 m 21 ls [.int (nI (sLen.getD 2 0)), .int 0]) rfl ?_
    refine lv_topi (fun cz ez => ?_)
    obtain rfl : cz = 4 := ez.trans (by decide)
    refine lv_icmp_ge (tgt := 50) hx hb d_Tokens_isWord_21 rfl (fun hz => absurd hz (by decide)) (fun _ => ?_)
    refine lv_aload_n hx hb d_Tokens_isWord_24 rfl (lv_at hl 1 rfl) ?_
    refine Wd.get hx hb hts hown hK hW 0 0 in_Tokens w_fl_Tokens_9 (by decide) d_Tokens_isWord_25 rfl rfl rfl ?_
    refine lv_iload_n hx hb d_Tokens_isWord_28 rfl (lv_at hl 3 rfl) ?_
    refine lv_iload hx hb d_Tokens_isWord_29 (lv_at hl 0 rfl) ?_
    refine lv_iadd hx hb d_Tokens_isWord_31 ?_
    refine Wd.cald hx hb hK hW 1 d_Tokens_isWord_32 rfl (isw_in 0 (by assumption) hbe he (by decide)) ?_
    refine lv_aload_n hx hb d_Tokens_isWord_33 rfl (lv_at hl 2 rfl) ?_
    refine lv_iload hx hb d_Tokens_isWord_34 (lv_at hl 0 rfl) ?_
    refine CtX.callK (i := 2) (As := [.int 0]) (rest := [.int (f (((nI b) + 0).toNatClampNeg))]) hx hb hml hown hts hK hE hA hl.1 hW (cx_JString_charAt l G V hfl 2 0 (by first | assumption | omega | decide) (by decide)) (by decide) (hts _ w_ml_Tokens_83) (hts _ w_im_JString_charAt) (hts _ w_se_JString_charAt) (hts _ w_ini_JString) (hts _ w_code_JString_charAt) yd_JString_charAt.2 [] (by decide) rfl rfl rfl (Nat.le_of_ble_eq_true rfl) d_Tokens_isWord_36 (by decide) (by decide) rfl rfl ⟨by decide, by decide⟩ (fun o w' hp => by rw [hp.2]; exact Nat.le_of_ble_eq_true rfl) (fun v w' H locs hp hW => ?_) (fun X a cell w' H locs hp => absurd hp.1 (fun h => by cases h))
    obtain ⟨hv, rfl⟩ := hp
    cases hv
    have hW : Wd G A s.heap [(h0, .inr (11, [.ref h0t, .ref h0k, .ref h0b, .ref h0v, .int ct])), (h0t, .inl (G.2 2, 120, .inl f))] H locs := hW
    refine W.eq (g2 := F0 m 39 ls [.int (chS 2 0), .int (f (((nI b) + 0).toNatClampNeg))]) rfl ?_
    refine lv_icmp_eq (tgt := 44) hx hb d_Tokens_isWord_39 rfl (fun ht3 => ?_) (fun hf4 => ?_)
    · refine lv_iinc (k := 0) (v := 1) (lv' := [(4, .int 1), (0, .ref h0), (1, .ref (V.1 2)), (2, .int (nI b)), (3, .int (nI ee))]) hx hb d_Tokens_isWord_44 hl rfl (by decide) (by decide) rfl (fun ls hl => ?_)
      refine lv_goto (tgt := 15) hx hb d_Tokens_isWord_47 rfl ?_
      refine lv_iload hx hb d_Tokens_isWord_15 (lv_at hl 0 rfl) ?_
      refine lv_aload_n hx hb d_Tokens_isWord_17 rfl (lv_at hl 2 rfl) ?_
      refine CtX.callK (i := 2) (As := []) (rest := [.int 1]) hx hb hml hown hts hK hE hA hl.1 hW (cx_JString_length l G V hfl 2 (by first | assumption | omega | decide)) (by decide) (hts _ w_ml_Tokens_79) (hts _ w_im_JString_length) (hts _ w_se_JString_length) (hts _ w_ini_JString) (hts _ w_code_JString_length) yd_JString_length.2 [] (by decide) rfl rfl rfl (Nat.le_of_ble_eq_true rfl) d_Tokens_isWord_18 (by decide) (by decide) rfl rfl ⟨by decide, by decide⟩ (fun o w' hp => by rw [hp.2]; exact Nat.le_of_ble_eq_true rfl) (fun v w' H locs hp hW => ?_) (fun X a cell w' H locs hp => absurd hp.1 (fun h => by cases h))
      obtain ⟨hv, rfl⟩ := hp
      cases hv
      have hW : Wd G A s.heap [(h0, .inr (11, [.ref h0t, .ref h0k, .ref h0b, .ref h0v, .int ct])), (h0t, .inl (G.2 2, 120, .inl f))] H locs := hW
      refine W.eq (g2 := F0 m 21 ls [.int (nI (sLen.getD 2 0)), .int 1]) rfl ?_
      refine lv_topi (fun cz ez => ?_)
      obtain rfl : cz = 4 := ez.trans (by decide)
      refine lv_icmp_ge (tgt := 50) hx hb d_Tokens_isWord_21 rfl (fun hz => absurd hz (by decide)) (fun _ => ?_)
      refine lv_aload_n hx hb d_Tokens_isWord_24 rfl (lv_at hl 1 rfl) ?_
      refine Wd.get hx hb hts hown hK hW 0 0 in_Tokens w_fl_Tokens_9 (by decide) d_Tokens_isWord_25 rfl rfl rfl ?_
      refine lv_iload_n hx hb d_Tokens_isWord_28 rfl (lv_at hl 3 rfl) ?_
      refine lv_iload hx hb d_Tokens_isWord_29 (lv_at hl 0 rfl) ?_
      refine lv_iadd hx hb d_Tokens_isWord_31 ?_
      refine Wd.cald hx hb hK hW 1 d_Tokens_isWord_32 rfl (isw_in 1 (by assumption) hbe he (by decide)) ?_
      refine lv_aload_n hx hb d_Tokens_isWord_33 rfl (lv_at hl 2 rfl) ?_
      refine lv_iload hx hb d_Tokens_isWord_34 (lv_at hl 0 rfl) ?_
      refine CtX.callK (i := 2) (As := [.int 1]) (rest := [.int (f (((nI b) + 1).toNatClampNeg))]) hx hb hml hown hts hK hE hA hl.1 hW (cx_JString_charAt l G V hfl 2 1 (by first | assumption | omega | decide) (by decide)) (by decide) (hts _ w_ml_Tokens_83) (hts _ w_im_JString_charAt) (hts _ w_se_JString_charAt) (hts _ w_ini_JString) (hts _ w_code_JString_charAt) yd_JString_charAt.2 [] (by decide) rfl rfl rfl (Nat.le_of_ble_eq_true rfl) d_Tokens_isWord_36 (by decide) (by decide) rfl rfl ⟨by decide, by decide⟩ (fun o w' hp => by rw [hp.2]; exact Nat.le_of_ble_eq_true rfl) (fun v w' H locs hp hW => ?_) (fun X a cell w' H locs hp => absurd hp.1 (fun h => by cases h))
      obtain ⟨hv, rfl⟩ := hp
      cases hv
      have hW : Wd G A s.heap [(h0, .inr (11, [.ref h0t, .ref h0k, .ref h0b, .ref h0v, .int ct])), (h0t, .inl (G.2 2, 120, .inl f))] H locs := hW
      refine W.eq (g2 := F0 m 39 ls [.int (chS 2 1), .int (f (((nI b) + 1).toNatClampNeg))]) rfl ?_
      refine lv_icmp_eq (tgt := 44) hx hb d_Tokens_isWord_39 rfl (fun ht5 => ?_) (fun hf6 => ?_)
      · refine lv_iinc (k := 0) (v := 2) (lv' := [(4, .int 2), (0, .ref h0), (1, .ref (V.1 2)), (2, .int (nI b)), (3, .int (nI ee))]) hx hb d_Tokens_isWord_44 hl rfl (by decide) (by decide) rfl (fun ls hl => ?_)
        refine lv_goto (tgt := 15) hx hb d_Tokens_isWord_47 rfl ?_
        refine lv_iload hx hb d_Tokens_isWord_15 (lv_at hl 0 rfl) ?_
        refine lv_aload_n hx hb d_Tokens_isWord_17 rfl (lv_at hl 2 rfl) ?_
        refine CtX.callK (i := 2) (As := []) (rest := [.int 2]) hx hb hml hown hts hK hE hA hl.1 hW (cx_JString_length l G V hfl 2 (by first | assumption | omega | decide)) (by decide) (hts _ w_ml_Tokens_79) (hts _ w_im_JString_length) (hts _ w_se_JString_length) (hts _ w_ini_JString) (hts _ w_code_JString_length) yd_JString_length.2 [] (by decide) rfl rfl rfl (Nat.le_of_ble_eq_true rfl) d_Tokens_isWord_18 (by decide) (by decide) rfl rfl ⟨by decide, by decide⟩ (fun o w' hp => by rw [hp.2]; exact Nat.le_of_ble_eq_true rfl) (fun v w' H locs hp hW => ?_) (fun X a cell w' H locs hp => absurd hp.1 (fun h => by cases h))
        obtain ⟨hv, rfl⟩ := hp
        cases hv
        have hW : Wd G A s.heap [(h0, .inr (11, [.ref h0t, .ref h0k, .ref h0b, .ref h0v, .int ct])), (h0t, .inl (G.2 2, 120, .inl f))] H locs := hW
        refine W.eq (g2 := F0 m 21 ls [.int (nI (sLen.getD 2 0)), .int 2]) rfl ?_
        refine lv_topi (fun cz ez => ?_)
        obtain rfl : cz = 4 := ez.trans (by decide)
        refine lv_icmp_ge (tgt := 50) hx hb d_Tokens_isWord_21 rfl (fun hz => absurd hz (by decide)) (fun _ => ?_)
        refine lv_aload_n hx hb d_Tokens_isWord_24 rfl (lv_at hl 1 rfl) ?_
        refine Wd.get hx hb hts hown hK hW 0 0 in_Tokens w_fl_Tokens_9 (by decide) d_Tokens_isWord_25 rfl rfl rfl ?_
        refine lv_iload_n hx hb d_Tokens_isWord_28 rfl (lv_at hl 3 rfl) ?_
        refine lv_iload hx hb d_Tokens_isWord_29 (lv_at hl 0 rfl) ?_
        refine lv_iadd hx hb d_Tokens_isWord_31 ?_
        refine Wd.cald hx hb hK hW 1 d_Tokens_isWord_32 rfl (isw_in 2 (by assumption) hbe he (by decide)) ?_
        refine lv_aload_n hx hb d_Tokens_isWord_33 rfl (lv_at hl 2 rfl) ?_
        refine lv_iload hx hb d_Tokens_isWord_34 (lv_at hl 0 rfl) ?_
        refine CtX.callK (i := 2) (As := [.int 2]) (rest := [.int (f (((nI b) + 2).toNatClampNeg))]) hx hb hml hown hts hK hE hA hl.1 hW (cx_JString_charAt l G V hfl 2 2 (by first | assumption | omega | decide) (by decide)) (by decide) (hts _ w_ml_Tokens_83) (hts _ w_im_JString_charAt) (hts _ w_se_JString_charAt) (hts _ w_ini_JString) (hts _ w_code_JString_charAt) yd_JString_charAt.2 [] (by decide) rfl rfl rfl (Nat.le_of_ble_eq_true rfl) d_Tokens_isWord_36 (by decide) (by decide) rfl rfl ⟨by decide, by decide⟩ (fun o w' hp => by rw [hp.2]; exact Nat.le_of_ble_eq_true rfl) (fun v w' H locs hp hW => ?_) (fun X a cell w' H locs hp => absurd hp.1 (fun h => by cases h))
        obtain ⟨hv, rfl⟩ := hp
        cases hv
        have hW : Wd G A s.heap [(h0, .inr (11, [.ref h0t, .ref h0k, .ref h0b, .ref h0v, .int ct])), (h0t, .inl (G.2 2, 120, .inl f))] H locs := hW
        refine W.eq (g2 := F0 m 39 ls [.int (chS 2 2), .int (f (((nI b) + 2).toNatClampNeg))]) rfl ?_
        refine lv_icmp_eq (tgt := 44) hx hb d_Tokens_isWord_39 rfl (fun ht7 => ?_) (fun hf8 => ?_)
        · refine lv_iinc (k := 0) (v := 3) (lv' := [(4, .int 3), (0, .ref h0), (1, .ref (V.1 2)), (2, .int (nI b)), (3, .int (nI ee))]) hx hb d_Tokens_isWord_44 hl rfl (by decide) (by decide) rfl (fun ls hl => ?_)
          refine lv_goto (tgt := 15) hx hb d_Tokens_isWord_47 rfl ?_
          refine lv_iload hx hb d_Tokens_isWord_15 (lv_at hl 0 rfl) ?_
          refine lv_aload_n hx hb d_Tokens_isWord_17 rfl (lv_at hl 2 rfl) ?_
          refine CtX.callK (i := 2) (As := []) (rest := [.int 3]) hx hb hml hown hts hK hE hA hl.1 hW (cx_JString_length l G V hfl 2 (by first | assumption | omega | decide)) (by decide) (hts _ w_ml_Tokens_79) (hts _ w_im_JString_length) (hts _ w_se_JString_length) (hts _ w_ini_JString) (hts _ w_code_JString_length) yd_JString_length.2 [] (by decide) rfl rfl rfl (Nat.le_of_ble_eq_true rfl) d_Tokens_isWord_18 (by decide) (by decide) rfl rfl ⟨by decide, by decide⟩ (fun o w' hp => by rw [hp.2]; exact Nat.le_of_ble_eq_true rfl) (fun v w' H locs hp hW => ?_) (fun X a cell w' H locs hp => absurd hp.1 (fun h => by cases h))
          obtain ⟨hv, rfl⟩ := hp
          cases hv
          have hW : Wd G A s.heap [(h0, .inr (11, [.ref h0t, .ref h0k, .ref h0b, .ref h0v, .int ct])), (h0t, .inl (G.2 2, 120, .inl f))] H locs := hW
          refine W.eq (g2 := F0 m 21 ls [.int (nI (sLen.getD 2 0)), .int 3]) rfl ?_
          refine lv_topi (fun cz ez => ?_)
          obtain rfl : cz = 4 := ez.trans (by decide)
          refine lv_icmp_ge (tgt := 50) hx hb d_Tokens_isWord_21 rfl (fun hz => absurd hz (by decide)) (fun _ => ?_)
          refine lv_aload_n hx hb d_Tokens_isWord_24 rfl (lv_at hl 1 rfl) ?_
          refine Wd.get hx hb hts hown hK hW 0 0 in_Tokens w_fl_Tokens_9 (by decide) d_Tokens_isWord_25 rfl rfl rfl ?_
          refine lv_iload_n hx hb d_Tokens_isWord_28 rfl (lv_at hl 3 rfl) ?_
          refine lv_iload hx hb d_Tokens_isWord_29 (lv_at hl 0 rfl) ?_
          refine lv_iadd hx hb d_Tokens_isWord_31 ?_
          refine Wd.cald hx hb hK hW 1 d_Tokens_isWord_32 rfl (isw_in 3 (by assumption) hbe he (by decide)) ?_
          refine lv_aload_n hx hb d_Tokens_isWord_33 rfl (lv_at hl 2 rfl) ?_
          refine lv_iload hx hb d_Tokens_isWord_34 (lv_at hl 0 rfl) ?_
          refine CtX.callK (i := 2) (As := [.int 3]) (rest := [.int (f (((nI b) + 3).toNatClampNeg))]) hx hb hml hown hts hK hE hA hl.1 hW (cx_JString_charAt l G V hfl 2 3 (by first | assumption | omega | decide) (by decide)) (by decide) (hts _ w_ml_Tokens_83) (hts _ w_im_JString_charAt) (hts _ w_se_JString_charAt) (hts _ w_ini_JString) (hts _ w_code_JString_charAt) yd_JString_charAt.2 [] (by decide) rfl rfl rfl (Nat.le_of_ble_eq_true rfl) d_Tokens_isWord_36 (by decide) (by decide) rfl rfl ⟨by decide, by decide⟩ (fun o w' hp => by rw [hp.2]; exact Nat.le_of_ble_eq_true rfl) (fun v w' H locs hp hW => ?_) (fun X a cell w' H locs hp => absurd hp.1 (fun h => by cases h))
          obtain ⟨hv, rfl⟩ := hp
          cases hv
          have hW : Wd G A s.heap [(h0, .inr (11, [.ref h0t, .ref h0k, .ref h0b, .ref h0v, .int ct])), (h0t, .inl (G.2 2, 120, .inl f))] H locs := hW
          refine W.eq (g2 := F0 m 39 ls [.int (chS 2 3), .int (f (((nI b) + 3).toNatClampNeg))]) rfl ?_
          refine lv_icmp_eq (tgt := 44) hx hb d_Tokens_isWord_39 rfl (fun ht9 => ?_) (fun hf10 => ?_)
          · refine lv_iinc (k := 0) (v := 4) (lv' := [(4, .int 4), (0, .ref h0), (1, .ref (V.1 2)), (2, .int (nI b)), (3, .int (nI ee))]) hx hb d_Tokens_isWord_44 hl rfl (by decide) (by decide) rfl (fun ls hl => ?_)
            refine lv_goto (tgt := 15) hx hb d_Tokens_isWord_47 rfl ?_
            refine lv_iload hx hb d_Tokens_isWord_15 (lv_at hl 0 rfl) ?_
            refine lv_aload_n hx hb d_Tokens_isWord_17 rfl (lv_at hl 2 rfl) ?_
            refine CtX.callK (i := 2) (As := []) (rest := [.int 4]) hx hb hml hown hts hK hE hA hl.1 hW (cx_JString_length l G V hfl 2 (by first | assumption | omega | decide)) (by decide) (hts _ w_ml_Tokens_79) (hts _ w_im_JString_length) (hts _ w_se_JString_length) (hts _ w_ini_JString) (hts _ w_code_JString_length) yd_JString_length.2 [] (by decide) rfl rfl rfl (Nat.le_of_ble_eq_true rfl) d_Tokens_isWord_18 (by decide) (by decide) rfl rfl ⟨by decide, by decide⟩ (fun o w' hp => by rw [hp.2]; exact Nat.le_of_ble_eq_true rfl) (fun v w' H locs hp hW => ?_) (fun X a cell w' H locs hp => absurd hp.1 (fun h => by cases h))
            obtain ⟨hv, rfl⟩ := hp
            cases hv
            have hW : Wd G A s.heap [(h0, .inr (11, [.ref h0t, .ref h0k, .ref h0b, .ref h0v, .int ct])), (h0t, .inl (G.2 2, 120, .inl f))] H locs := hW
            refine W.eq (g2 := F0 m 21 ls [.int (nI (sLen.getD 2 0)), .int 4]) rfl ?_
            refine lv_topi (fun cz ez => ?_)
            obtain rfl : cz = 4 := ez.trans (by decide)
            refine lv_icmp_ge (tgt := 50) hx hb d_Tokens_isWord_21 rfl (fun _ => ?_) (fun hz => absurd (by decide) hz)
            refine lv_iconst (v := 1) hx hb d_Tokens_isWord_50 (by decide) ?_
            exact CtX.zret hx hb hr hnl hW (by decide) (by decide) d_Tokens_isWord_51 (by decide) ⟨by first | rfl | (simp only [o_Tokens_isWord2_r, if_pos ht1, if_pos ht3, if_pos ht5, if_pos ht7, if_pos ht9]), by first | rfl | (simp only [o_Tokens_isWord2_r, if_pos ht1, if_pos ht3, if_pos ht5, if_pos ht7, if_pos ht9])⟩
          · refine lv_iconst (v := 0) hx hb d_Tokens_isWord_42 (by decide) ?_
            exact CtX.zret hx hb hr hnl hW (by decide) (by decide) d_Tokens_isWord_43 (by decide) ⟨by first | rfl | (simp only [o_Tokens_isWord2_r, if_pos ht1, if_pos ht3, if_pos ht5, if_pos ht7, if_neg hf10]), by first | rfl | (simp only [o_Tokens_isWord2_r, if_pos ht1, if_pos ht3, if_pos ht5, if_pos ht7, if_neg hf10])⟩
        · refine lv_iconst (v := 0) hx hb d_Tokens_isWord_42 (by decide) ?_
          exact CtX.zret hx hb hr hnl hW (by decide) (by decide) d_Tokens_isWord_43 (by decide) ⟨by first | rfl | (simp only [o_Tokens_isWord2_r, if_pos ht1, if_pos ht3, if_pos ht5, if_neg hf8]), by first | rfl | (simp only [o_Tokens_isWord2_r, if_pos ht1, if_pos ht3, if_pos ht5, if_neg hf8])⟩
      · refine lv_iconst (v := 0) hx hb d_Tokens_isWord_42 (by decide) ?_
        exact CtX.zret hx hb hr hnl hW (by decide) (by decide) d_Tokens_isWord_43 (by decide) ⟨by first | rfl | (simp only [o_Tokens_isWord2_r, if_pos ht1, if_pos ht3, if_neg hf6]), by first | rfl | (simp only [o_Tokens_isWord2_r, if_pos ht1, if_pos ht3, if_neg hf6])⟩
    · refine lv_iconst (v := 0) hx hb d_Tokens_isWord_42 (by decide) ?_
      exact CtX.zret hx hb hr hnl hW (by decide) (by decide) d_Tokens_isWord_43 (by decide) ⟨by first | rfl | (simp only [o_Tokens_isWord2_r, if_pos ht1, if_neg hf4]), by first | rfl | (simp only [o_Tokens_isWord2_r, if_pos ht1, if_neg hf4])⟩
  · refine lv_iconst (v := 0) hx hb d_Tokens_isWord_10 (by decide) ?_
    exact CtX.zret hx hb hr hnl hW (by decide) (by decide) d_Tokens_isWord_11 (by decide) ⟨by first | rfl | (simp only [o_Tokens_isWord2_r, if_neg hf2]), by first | rfl | (simp only [o_Tokens_isWord2_r, if_neg hf2])⟩

def wdK (f : Nat → Int32) (b e : Nat) : Int32 := if nI e = nI b + 1 then 1 else if o_Tokens_isWord0_r b e f = 0 then (if o_Tokens_isWord1_r b e f = 0 then (if o_Tokens_isWord2_r b e f = 0 then 7 else 6) else 5) else 4

