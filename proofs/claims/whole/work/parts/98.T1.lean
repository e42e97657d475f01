/-! the reference's tokens -/
def seF (f : Nat → Int32) (ty x : Int32) : Int32 := if ty ≤ x then 0 else f x.toNatClampNeg
theorem seF_in {L b : Nat} (hL : L ≤ 120) (hb : b < 1000) (h : ¬ nI L ≤ nI b) : vp_in (nI b) 120 := by
  have : b < L := by
    apply Nat.lt_of_not_le
    intro q
    exact h (nI_le q (by omega))
  exact vp_in_nI (by omega) (by omega)
theorem seF_lt {f : Nat → Int32} {L b : Nat} (hL : L ≤ 120) (hb : b < L) : seF f (nI L) (nI b) = f b := by
  unfold seF
  rw [if_neg (nI_ge hb (by omega)), nI_clamp (by omega)]
theorem seF_ge {f : Nat → Int32} {L b : Nat} (hb : L ≤ b) (hb2 : b < 1000) : seF f (nI L) (nI b) = 0 := by
  unfold seF
  rw [if_pos (nI_le hb (by omega))]
theorem seF_ne {f : Nat → Int32} {L b : Nat} (hb2 : b < 1000) (h : ¬ seF f (nI L) (nI b) = 0) : b < L := by
  apply Nat.lt_of_not_le
  intro q
  exact h (seF_ge q hb2)
theorem seF_nar {f : Nat → Int32} (hch : ∀ j, narrow .char (.int (f j)) = .int (f j)) (ty x : Int32) : narrow .char (.int (seF f ty x)) = .int (seF f ty x) := by
  unfold seF
  split
  · decide
  · exact hch _

abbrev rm_Mo_seeR : Room := { frames := 0, cells := 0, slots := 0, locals := 0 }
set_option maxHeartbeats 4000000 in
set_option maxRecDepth 100000 in
theorem c_Mo_seeR (l : Launch) (G : Gt) (h0 : Nat) (mcd : Int32) (mty : Int32) (mtx : Nat) (mpl : Int32) (mth : Int32) (mln : Int32) (msc : Nat) (mfr : Int32) (mdr : Nat) (mcm : Int32) (mop : Int32) (mkd : Int32) (mbg : Int32) (mnd : Int32) (mam : Int32) (mis : Nat) (mip : Nat) (msd : Nat) (mrg : Nat) (mmn : Int32) (mou : Nat) (f : Nat → Int32) (x : Int32) (hin : ¬ mty ≤ x → vp_in x 120) (hch : ∀ j, narrow .char (.int (f j)) = .int (f j)) : Ct l G y_Mo_see b_Mo_see 2 (some .char) rm_Mo_seeR [.ref h0, .int x] [(h0, .inr (1, [.int mcd, .int mty, .ref mtx, .int mpl, .int mth, .int mln, .ref msc, .int mfr, .ref mdr, .int mcm, .int mop, .int mkd, .int mbg, .int mnd, .int mam, .ref mis, .ref mip, .ref msd, .ref mrg, .int mmn, .ref mou])), (mtx, .inl (G.2 2, 120, .inl f))] 0 0 (fun v w' => v = some (.int (seF f mty x)) ∧ w' = [(h0, .inr (1, [.int mcd, .int mty, .ref mtx, .int mpl, .int mth, .int mln, .ref msc, .int mfr, .ref mdr, .int mcm, .int mop, .int mkd, .int mbg, .int mnd, .int mam, .ref mis, .ref mip, .ref msd, .ref mrg, .int mmn, .ref mou])), (mtx, .inl (G.2 2, 120, .inl f))]) := by
  refine Ct.of (by decide) (Nat.le_of_ble_eq_true rfl) (fun p e s m args below meth c A ls H locs hx hb hml hr hnl hown hts hnm hK hA hl hW => ?_)
  have hl : lv_has ls 2 [(0, .ref h0), (1, .int x)] := hl
  refine lv_iload_n hx hb d_Mo_see_0 rfl (lv_at hl 1 rfl) ?_
  refine lv_aload_n hx hb d_Mo_see_1 rfl (lv_at hl 0 rfl) ?_
  refine Wd.get hx hb hts hown hK hW 0 1 in_Mo w_fl_Mo_45 (by decide) d_Mo_see_2 rfl rfl rfl ?_
  refine lv_icmp_ge (tgt := 17) hx hb d_Mo_see_5 rfl (fun ht1 => ?_) (fun hf2 => ?_)
  · refine lv_iconst (v := 0) hx hb d_Mo_see_17 (by decide) ?_
    exact Ct.cret hx hb hr hnl hW (by decide) (by decide) d_Mo_see_18 (by decide) ⟨by first | rfl | (simp only [seF, if_pos ht1]; done) | (simp only [seF, if_pos ht1]; rfl), by first | rfl | (simp only [seF, if_pos ht1]; done) | (simp only [seF, if_pos ht1]; rfl)⟩
  · refine lv_aload_n hx hb d_Mo_see_8 rfl (lv_at hl 0 rfl) ?_
    refine Wd.get hx hb hts hown hK hW 0 2 in_Mo w_fl_Mo_7 (by decide) d_Mo_see_9 rfl rfl rfl ?_
    refine lv_iload_n hx hb d_Mo_see_12 rfl (lv_at hl 1 rfl) ?_
    refine Wd.cald hx hb hK hW 1 d_Mo_see_13 rfl (hin (by assumption)) ?_
    refine lv_goto (tgt := 18) hx hb d_Mo_see_14 rfl ?_
    exact Ct.cret hx hb hr hnl hW (by decide) (by decide) d_Mo_see_18 (by first | exact hch _ | decide) ⟨by first | rfl | (simp only [seF, if_neg hf2]; done) | (simp only [seF, if_neg hf2]; rfl), by first | rfl | (simp only [seF, if_neg hf2]; done) | (simp only [seF, if_neg hf2]; rfl)⟩

def o_Mo_isLetter_r (x : Int32) : Int32 := if x < 97 then 0 else if 122 < x then 0 else 1
abbrev rm_Mo_isLetter : Room := { frames := 0, cells := 0, slots := 0, locals := 0 }
set_option maxHeartbeats 4000000 in
set_option maxRecDepth 100000 in
theorem c_Mo_isLetter (l : Launch) (G : Gt) (x : Int32) : Ct l G y_Mo_isLetter b_Mo_isLetter 1 (some .boolean) rm_Mo_isLetter [.int x] [] 0 0 (fun v w' => v = some (.int (o_Mo_isLetter_r x)) ∧ w' = []) := by
  refine Ct.of (by decide) (Nat.le_of_ble_eq_true rfl) (fun p e s m args below meth c A ls H locs hx hb hml hr hnl hown hts hnm hK hA hl hW => ?_)
  have hl : lv_has ls 1 [(0, .int x)] := hl
  refine lv_iload_n hx hb d_Mo_isLetter_0 rfl (lv_at hl 0 rfl) ?_
  refine lv_bipush (v := 97) hx hb d_Mo_isLetter_1 (by decide) ?_
  refine lv_icmp_lt (tgt := 16) hx hb d_Mo_isLetter_3 rfl (fun ht1 => ?_) (fun hf2 => ?_)
  · refine lv_iconst (v := 0) hx hb d_Mo_isLetter_16 (by decide) ?_
    exact Ct.zret hx hb hr hnl hW (by decide) (by decide) d_Mo_isLetter_17 (by decide) ⟨by first | rfl | (simp only [o_Mo_isLetter_r, if_pos ht1]), by first | rfl | (simp only [o_Mo_isLetter_r, if_pos ht1])⟩
  · refine lv_iload_n hx hb d_Mo_isLetter_6 rfl (lv_at hl 0 rfl) ?_
    refine lv_bipush (v := 122) hx hb d_Mo_isLetter_7 (by decide) ?_
    refine lv_icmp_gt (tgt := 16) hx hb d_Mo_isLetter_9 rfl (fun ht3 => ?_) (fun hf4 => ?_)
    · refine lv_iconst (v := 0) hx hb d_Mo_isLetter_16 (by decide) ?_
      exact Ct.zret hx hb hr hnl hW (by decide) (by decide) d_Mo_isLetter_17 (by decide) ⟨by first | rfl | (simp only [o_Mo_isLetter_r, if_neg hf2, if_pos ht3]), by first | rfl | (simp only [o_Mo_isLetter_r, if_neg hf2, if_pos ht3])⟩
    · refine lv_iconst (v := 1) hx hb d_Mo_isLetter_12 (by decide) ?_
      refine lv_goto (tgt := 17) hx hb d_Mo_isLetter_13 rfl ?_
      exact Ct.zret hx hb hr hnl hW (by decide) (by decide) d_Mo_isLetter_17 (by decide) ⟨by first | rfl | (simp only [o_Mo_isLetter_r, if_neg hf2, if_neg hf4]), by first | rfl | (simp only [o_Mo_isLetter_r, if_neg hf2, if_neg hf4])⟩

def o_Mo_isDigit_r (x : Int32) : Int32 := if x < 48 then 0 else if 57 < x then 0 else 1
abbrev rm_Mo_isDigit : Room := { frames := 0, cells := 0, slots := 0, locals := 0 }
set_option maxHeartbeats 4000000 in
set_option maxRecDepth 100000 in
theorem c_Mo_isDigit (l : Launch) (G : Gt) (x : Int32) : Ct l G y_Mo_isDigit b_Mo_isDigit 1 (some .boolean) rm_Mo_isDigit [.int x] [] 0 0 (fun v w' => v = some (.int (o_Mo_isDigit_r x)) ∧ w' = []) := by
  refine Ct.of (by decide) (Nat.le_of_ble_eq_true rfl) (fun p e s m args below meth c A ls H locs hx hb hml hr hnl hown hts hnm hK hA hl hW => ?_)
  have hl : lv_has ls 1 [(0, .int x)] := hl
  refine lv_iload_n hx hb d_Mo_isDigit_0 rfl (lv_at hl 0 rfl) ?_
  refine lv_bipush (v := 48) hx hb d_Mo_isDigit_1 (by decide) ?_
  refine lv_icmp_lt (tgt := 16) hx hb d_Mo_isDigit_3 rfl (fun ht1 => ?_) (fun hf2 => ?_)
  · refine lv_iconst (v := 0) hx hb d_Mo_isDigit_16 (by decide) ?_
    exact Ct.zret hx hb hr hnl hW (by decide) (by decide) d_Mo_isDigit_17 (by decide) ⟨by first | rfl | (simp only [o_Mo_isDigit_r, if_pos ht1]), by first | rfl | (simp only [o_Mo_isDigit_r, if_pos ht1])⟩
  · refine lv_iload_n hx hb d_Mo_isDigit_6 rfl (lv_at hl 0 rfl) ?_
    refine lv_bipush (v := 57) hx hb d_Mo_isDigit_7 (by decide) ?_
    refine lv_icmp_gt (tgt := 16) hx hb d_Mo_isDigit_9 rfl (fun ht3 => ?_) (fun hf4 => ?_)
    · refine lv_iconst (v := 0) hx hb d_Mo_isDigit_16 (by decide) ?_
      exact Ct.zret hx hb hr hnl hW (by decide) (by decide) d_Mo_isDigit_17 (by decide) ⟨by first | rfl | (simp only [o_Mo_isDigit_r, if_neg hf2, if_pos ht3]), by first | rfl | (simp only [o_Mo_isDigit_r, if_neg hf2, if_pos ht3])⟩
    · refine lv_iconst (v := 1) hx hb d_Mo_isDigit_12 (by decide) ?_
      refine lv_goto (tgt := 17) hx hb d_Mo_isDigit_13 rfl ?_
      exact Ct.zret hx hb hr hnl hW (by decide) (by decide) d_Mo_isDigit_17 (by decide) ⟨by first | rfl | (simp only [o_Mo_isDigit_r, if_neg hf2, if_neg hf4]), by first | rfl | (simp only [o_Mo_isDigit_r, if_neg hf2, if_neg hf4])⟩

def o_Mo_isSign_r (x : Int32) : Int32 := if x = 61 then 1 else if x = 43 then 1 else if x = 45 then 1 else if x = 42 then 1 else if x = 60 then 1 else if x = 63 then 1 else if x = 58 then 1 else if x = 59 then 1 else if x = 36 then 1 else 0
abbrev rm_Mo_isSign : Room := { frames := 0, cells := 0, slots := 0, locals := 0 }
set_option maxHeartbeats 4000000 in
set_option maxRecDepth 100000 in
theorem c_Mo_isSign (l : Launch) (G : Gt) (x : Int32) : Ct l G y_Mo_isSign b_Mo_isSign 1 (some .boolean) rm_Mo_isSign [.int x] [] 0 0 (fun v w' => v = some (.int (o_Mo_isSign_r x)) ∧ w' = []) := by
  refine Ct.of (by decide) (Nat.le_of_ble_eq_true rfl) (fun p e s m args below meth c A ls H locs hx hb hml hr hnl hown hts hnm hK hA hl hW => ?_)
  have hl : lv_has ls 1 [(0, .int x)] := hl
  refine lv_iload_n hx hb d_Mo_isSign_0 rfl (lv_at hl 0 rfl) ?_
  refine lv_bipush (v := 61) hx hb d_Mo_isSign_1 (by decide) ?_
  refine lv_icmp_eq (tgt := 54) hx hb d_Mo_isSign_3 rfl (fun ht1 => ?_) (fun hf2 => ?_)
  · refine lv_iconst (v := 1) hx hb d_Mo_isSign_54 (by decide) ?_
    refine lv_goto (tgt := 59) hx hb d_Mo_isSign_55 rfl ?_
    exact Ct.zret hx hb hr hnl hW (by decide) (by decide) d_Mo_isSign_59 (by decide) ⟨by first | rfl | (simp only [o_Mo_isSign_r, if_pos ht1]), by first | rfl | (simp only [o_Mo_isSign_r, if_pos ht1])⟩
  · refine lv_iload_n hx hb d_Mo_isSign_6 rfl (lv_at hl 0 rfl) ?_
    refine lv_bipush (v := 43) hx hb d_Mo_isSign_7 (by decide) ?_
    refine lv_icmp_eq (tgt := 54) hx hb d_Mo_isSign_9 rfl (fun ht3 => ?_) (fun hf4 => ?_)
    · refine lv_iconst (v := 1) hx hb d_Mo_isSign_54 (by decide) ?_
      refine lv_goto (tgt := 59) hx hb d_Mo_isSign_55 rfl ?_
      exact Ct.zret hx hb hr hnl hW (by decide) (by decide) d_Mo_isSign_59 (by decide) ⟨by first | rfl | (simp only [o_Mo_isSign_r, if_neg hf2, if_pos ht3]), by first | rfl | (simp only [o_Mo_isSign_r, if_neg hf2, if_pos ht3])⟩
    · refine lv_iload_n hx hb d_Mo_isSign_12 rfl (lv_at hl 0 rfl) ?_
      refine lv_bipush (v := 45) hx hb d_Mo_isSign_13 (by decide) ?_
      refine lv_icmp_eq (tgt := 54) hx hb d_Mo_isSign_15 rfl (fun ht5 => ?_) (fun hf6 => ?_)
      · refine lv_iconst (v := 1) hx hb d_Mo_isSign_54 (by decide) ?_
        refine lv_goto (tgt := 59) hx hb d_Mo_isSign_55 rfl ?_
        exact Ct.zret hx hb hr hnl hW (by decide) (by decide) d_Mo_isSign_59 (by decide) ⟨by first | rfl | (simp only [o_Mo_isSign_r, if_neg hf2, if_neg hf4, if_pos ht5]), by first | rfl | (simp only [o_Mo_isSign_r, if_neg hf2, if_neg hf4, if_pos ht5])⟩
      · refine lv_iload_n hx hb d_Mo_isSign_18 rfl (lv_at hl 0 rfl) ?_
        refine lv_bipush (v := 42) hx hb d_Mo_isSign_19 (by decide) ?_
        refine lv_icmp_eq (tgt := 54) hx hb d_Mo_isSign_21 rfl (fun ht7 => ?_) (fun hf8 => ?_)
        · refine lv_iconst (v := 1) hx hb d_Mo_isSign_54 (by decide) ?_
          refine lv_goto (tgt := 59) hx hb d_Mo_isSign_55 rfl ?_
          exact Ct.zret hx hb hr hnl hW (by decide) (by decide) d_Mo_isSign_59 (by decide) ⟨by first | rfl | (simp only [o_Mo_isSign_r, if_neg hf2, if_neg hf4, if_neg hf6, if_pos ht7]), by first | rfl | (simp only [o_Mo_isSign_r, if_neg hf2, if_neg hf4, if_neg hf6, if_pos ht7])⟩
        · refine lv_iload_n hx hb d_Mo_isSign_24 rfl (lv_at hl 0 rfl) ?_
          refine lv_bipush (v := 60) hx hb d_Mo_isSign_25 (by decide) ?_
          refine lv_icmp_eq (tgt := 54) hx hb d_Mo_isSign_27 rfl (fun ht9 => ?_) (fun hf10 => ?_)
          · refine lv_iconst (v := 1) hx hb d_Mo_isSign_54 (by decide) ?_
            refine lv_goto (tgt := 59) hx hb d_Mo_isSign_55 rfl ?_
            exact Ct.zret hx hb hr hnl hW (by decide) (by decide) d_Mo_isSign_59 (by decide) ⟨by first | rfl | (simp only [o_Mo_isSign_r, if_neg hf2, if_neg hf4, if_neg hf6, if_neg hf8, if_pos ht9]), by first | rfl | (simp only [o_Mo_isSign_r, if_neg hf2, if_neg hf4, if_neg hf6, if_neg hf8, if_pos ht9])⟩
          · refine lv_iload_n hx hb d_Mo_isSign_30 rfl (lv_at hl 0 rfl) ?_
            refine lv_bipush (v := 63) hx hb d_Mo_isSign_31 (by decide) ?_
            refine lv_icmp_eq (tgt := 54) hx hb d_Mo_isSign_33 rfl (fun ht11 => ?_) (fun hf12 => ?_)
            · refine lv_iconst (v := 1) hx hb d_Mo_isSign_54 (by decide) ?_
              refine lv_goto (tgt := 59) hx hb d_Mo_isSign_55 rfl ?_
              exact Ct.zret hx hb hr hnl hW (by decide) (by decide) d_Mo_isSign_59 (by decide) ⟨by first | rfl | (simp only [o_Mo_isSign_r, if_neg hf2, if_neg hf4, if_neg hf6, if_neg hf8, if_neg hf10, if_pos ht11]), by first | rfl | (simp only [o_Mo_isSign_r, if_neg hf2, if_neg hf4, if_neg hf6, if_neg hf8, if_neg hf10, if_pos ht11])⟩
            · refine lv_iload_n hx hb d_Mo_isSign_36 rfl (lv_at hl 0 rfl) ?_
              refine lv_bipush (v := 58) hx hb d_Mo_isSign_37 (by decide) ?_
              refine lv_icmp_eq (tgt := 54) hx hb d_Mo_isSign_39 rfl (fun ht13 => ?_) (fun hf14 => ?_)
              · refine lv_iconst (v := 1) hx hb d_Mo_isSign_54 (by decide) ?_
                refine lv_goto (tgt := 59) hx hb d_Mo_isSign_55 rfl ?_
                exact Ct.zret hx hb hr hnl hW (by decide) (by decide) d_Mo_isSign_59 (by decide) ⟨by first | rfl | (simp only [o_Mo_isSign_r, if_neg hf2, if_neg hf4, if_neg hf6, if_neg hf8, if_neg hf10, if_neg hf12, if_pos ht13]), by first | rfl | (simp only [o_Mo_isSign_r, if_neg hf2, if_neg hf4, if_neg hf6, if_neg hf8, if_neg hf10, if_neg hf12, if_pos ht13])⟩
              · refine lv_iload_n hx hb d_Mo_isSign_42 rfl (lv_at hl 0 rfl) ?_
                refine lv_bipush (v := 59) hx hb d_Mo_isSign_43 (by decide) ?_
                refine lv_icmp_eq (tgt := 54) hx hb d_Mo_isSign_45 rfl (fun ht15 => ?_) (fun hf16 => ?_)
                · refine lv_iconst (v := 1) hx hb d_Mo_isSign_54 (by decide) ?_
                  refine lv_goto (tgt := 59) hx hb d_Mo_isSign_55 rfl ?_
                  exact Ct.zret hx hb hr hnl hW (by decide) (by decide) d_Mo_isSign_59 (by decide) ⟨by first | rfl | (simp only [o_Mo_isSign_r, if_neg hf2, if_neg hf4, if_neg hf6, if_neg hf8, if_neg hf10, if_neg hf12, if_neg hf14, if_pos ht15]), by first | rfl | (simp only [o_Mo_isSign_r, if_neg hf2, if_neg hf4, if_neg hf6, if_neg hf8, if_neg hf10, if_neg hf12, if_neg hf14, if_pos ht15])⟩
                · refine lv_iload_n hx hb d_Mo_isSign_48 rfl (lv_at hl 0 rfl) ?_
                  refine lv_bipush (v := 36) hx hb d_Mo_isSign_49 (by decide) ?_
                  refine lv_icmp_ne (tgt := 58) hx hb d_Mo_isSign_51 rfl (fun ht17 => ?_) (fun hf18 => ?_)
                  · refine lv_iconst (v := 0) hx hb d_Mo_isSign_58 (by decide) ?_
                    exact Ct.zret hx hb hr hnl hW (by decide) (by decide) d_Mo_isSign_59 (by decide) ⟨by first | rfl | (simp only [o_Mo_isSign_r, if_neg hf2, if_neg hf4, if_neg hf6, if_neg hf8, if_neg hf10, if_neg hf12, if_neg hf14, if_neg hf16, if_neg ht17]), by first | rfl | (simp only [o_Mo_isSign_r, if_neg hf2, if_neg hf4, if_neg hf6, if_neg hf8, if_neg hf10, if_neg hf12, if_neg hf14, if_neg hf16, if_neg ht17])⟩
                  · refine lv_iconst (v := 1) hx hb d_Mo_isSign_54 (by decide) ?_
                    refine lv_goto (tgt := 59) hx hb d_Mo_isSign_55 rfl ?_
                    exact Ct.zret hx hb hr hnl hW (by decide) (by decide) d_Mo_isSign_59 (by decide) ⟨by first | rfl | (simp only [o_Mo_isSign_r, if_neg hf2, if_neg hf4, if_neg hf6, if_neg hf8, if_neg hf10, if_neg hf12, if_neg hf14, if_neg hf16, if_pos hf18]), by first | rfl | (simp only [o_Mo_isSign_r, if_neg hf2, if_neg hf4, if_neg hf6, if_neg hf8, if_neg hf10, if_neg hf12, if_neg hf14, if_neg hf16, if_pos hf18])⟩

def mskG (f : Nat → Int32) (L : Nat) : Nat → Nat → Nat
  | 0, b => b
  | u + 1, b => if seF f (nI L) (nI b) = 32 then mskG f L u (b + 1) else b
def mwG (f : Nat → Int32) (L : Nat) : Nat → Nat → Nat
  | 0, e => e
  | u + 1, e => if o_Mo_isLetter_r (seF f (nI L) (nI e)) = 0 then e else mwG f L u (e + 1)
def mnG (f : Nat → Int32) (L b : Nat) : Nat → Nat → Int32 → Nat × Int32
  | 0, e, a => (e, a)
  | u + 1, e, a => if o_Mo_isDigit_r (seF f (nI L) (nI e)) = 0 then (e, a) else mnG f L b u (e + 1) (if 3 ≤ nI e - nI b then 0 else 10 * a + seF f (nI L) (nI e) - 48)
def mB (f : Nat → Int32) (L p : Nat) : Nat := mskG f L (L + 1 - p) p
def mW (f : Nat → Int32) (L b : Nat) : Nat := mwG f L (L + 1 - b) b
def mN (f : Nat → Int32) (L b : Nat) : Nat × Int32 := mnG f L b (L + 1 - b) b 0
theorem mskG_s {f : Nat → Int32} {L u b : Nat} (hu : 0 < u) : mskG f L u b = if seF f (nI L) (nI b) = 32 then mskG f L (u - 1) (b + 1) else b := by
  obtain ⟨v, rfl⟩ : ∃ v, u = v + 1 := ⟨u - 1, by omega⟩
  rfl
theorem mwG_s {f : Nat → Int32} {L u e : Nat} (hu : 0 < u) : mwG f L u e = if o_Mo_isLetter_r (seF f (nI L) (nI e)) = 0 then e else mwG f L (u - 1) (e + 1) := by
  obtain ⟨v, rfl⟩ : ∃ v, u = v + 1 := ⟨u - 1, by omega⟩
  rfl
theorem mnG_s {f : Nat → Int32} {L b u e : Nat} {a : Int32} (hu : 0 < u) : mnG f L b u e a = if o_Mo_isDigit_r (seF f (nI L) (nI e)) = 0 then (e, a) else mnG f L b (u - 1) (e + 1) (if 3 ≤ nI e - nI b then 0 else 10 * a + seF f (nI L) (nI e) - 48) := by
  obtain ⟨v, rfl⟩ : ∃ v, u = v + 1 := ⟨u - 1, by omega⟩
  rfl
/-- a token: kind, begin, end, amount -/
def mSc (f : Nat → Int32) (L p : Nat) : Int32 × Nat × Nat × Int32 :=
  if nI (mB f L p) < nI L then
    (if o_Mo_isLetter_r (seF f (nI L) (nI (mB f L p))) = 0 then
      (if o_Mo_isDigit_r (seF f (nI L) (nI (mB f L p))) = 0 then
        (if o_Mo_isSign_r (seF f (nI L) (nI (mB f L p))) = 0 then (4, mB f L p, mB f L p, 0) else (3, mB f L p, mB f L p + 1, 0))
      else (if nI (mN f L (mB f L p)).1 - nI (mB f L p) ≤ 3 then 2 else 4, mB f L p, (mN f L (mB f L p)).1, (mN f L (mB f L p)).2))
    else (1, mB f L p, mW f L (mB f L p), 0))
  else (0, mB f L p, mB f L p, 0)
theorem ltr_0 : o_Mo_isLetter_r 0 = 0 := by decide
theorem dig_0 : o_Mo_isDigit_r 0 = 0 := by decide

abbrev rm_Mo_scan : Room := { frames := 1, cells := 0, slots := 0, locals := 21 }
set_option maxHeartbeats 4000000 in
set_option maxRecDepth 100000 in
theorem c_Mo_scan (l : Launch) (G : Gt) (h0 : Nat) (mcd : Int32) (mtx : Nat) (mpl : Int32) (mth : Int32) (mln : Int32) (msc : Nat) (mfr : Int32) (mdr : Nat) (mcm : Int32) (mop : Int32) (mkd : Int32) (mbg : Int32) (mnd : Int32) (mam : Int32) (mis : Nat) (mip : Nat) (msd : Nat) (mrg : Nat) (mmn : Int32) (mou : Nat) (L : Nat) (f : Nat → Int32) (pp : Nat) (hL : L ≤ 120) (hp : pp ≤ L) (hch : ∀ j, narrow .char (.int (f j)) = .int (f j)) : Ct l G y_Mo_scan b_Mo_scan 3 none rm_Mo_scan [.ref h0, .int (nI pp)] [(h0, .inr (1, [.int mcd, .int (nI L), .ref mtx, .int mpl, .int mth, .int mln, .ref msc, .int mfr, .ref mdr, .int mcm, .int mop, .int mkd, .int mbg, .int mnd, .int mam, .ref mis, .ref mip, .ref msd, .ref mrg, .int mmn, .ref mou])), (mtx, .inl (G.2 2, 120, .inl f))] 0 0 (fun v w' => v = none ∧ w' = [(h0, .inr (1, [.int mcd, .int (nI L), .ref mtx, .int mpl, .int mth, .int mln, .ref msc, .int mfr, .ref mdr, .int mcm, .int mop, .int ((mSc f L pp).1), .int (nI (mSc f L pp).2.1), .int (nI (mSc f L pp).2.2.1), .int ((mSc f L pp).2.2.2), .ref mis, .ref mip, .ref msd, .ref mrg, .int mmn, .ref mou])), (mtx, .inl (G.2 2, 120, .inl f))]) := by
  refine Ct.of (by decide) (Nat.le_of_ble_eq_true rfl) (fun p e s m args below meth c A ls H locs hx hb hml hr hnl hown hts hnm hK hA hl hW => ?_)
  have hl : lv_has ls 3 [(0, .ref h0), (1, .int (nI pp))] := hl
  refine lv_aload_n hx hb d_Mo_scan_0 rfl (lv_at hl 0 rfl) ?_
  refine lv_iload_n hx hb d_Mo_scan_1 rfl (lv_at hl 1 rfl) ?_
  refine Wd.put hx hb hts hown hK hW 0 12 in_Mo t_Mo_ok n_Mo w_fl_Mo_48 (by decide) d_Mo_scan_2 rfl rfl rfl rfl rfl (Nat.le_of_ble_eq_true rfl) (fun H locs hW => ?_)
  have hW : Wd G A s.heap [(h0, .inr (1, [.int mcd, .int (nI L), .ref mtx, .int mpl, .int mth, .int mln, .ref msc, .int mfr, .ref mdr, .int mcm, .int mop, .int mkd, .int (nI pp), .int mnd, .int mam, .ref mis, .ref mip, .ref msd, .ref mrg, .int mmn, .ref mou])), (mtx, .inl (G.2 2, 120, .inl f))] H locs := hW
  have loop5 : ∀ (u : Nat) (b : Nat) (ls : Array Slot) (H : Heap) (locs : List Loc), b ≤ L → mskG f L (L + 1 - b) b = mB f L pp → (L - b) < u → lv_has ls 3 [(0, .ref h0)] → Wd G A s.heap [(h0, .inr (1, [.int mcd, .int (nI L), .ref mtx, .int mpl, .int mth, .int mln, .ref msc, .int mfr, .ref mdr, .int mcm, .int mop, .int mkd, .int (nI b), .int mnd, .int mam, .ref mis, .ref mip, .ref msd, .ref mrg, .int mmn, .ref mou])), (mtx, .inl (G.2 2, 120, .inl f))] H locs → W p l e rm_Mo_scan s m args below meth c H locs 0 0 (MQ below (Qcc G (fun v w' => v = none ∧ w' = [(h0, .inr (1, [.int mcd, .int (nI L), .ref mtx, .int mpl, .int mth, .int mln, .ref msc, .int mfr, .ref mdr, .int mcm, .int mop, .int ((mSc f L pp).1), .int (nI (mSc f L pp).2.1), .int (nI (mSc f L pp).2.2.1), .int ((mSc f L pp).2.2.2), .ref mis, .ref mip, .ref msd, .ref mrg, .int mmn, .ref mou])), (mtx, .inl (G.2 2, 120, .inl f))]) A) args s 0 0 A) (F0 m 5 ls []) := by
    intro u
    induction u with
    | zero => intro b ls H locs hb1 hg hu; exact absurd hu (Nat.not_lt_zero _)
    | succ u ih5 =>
      intro b ls H locs hb1 hg hu5 hl hW
      refine lv_aload_n hx hb d_Mo_scan_5 rfl (lv_at hl 0 rfl) ?_
      refine lv_aload_n hx hb d_Mo_scan_6 rfl (lv_at hl 0 rfl) ?_
      refine Wd.get hx hb hts hown hK hW 0 12 in_Mo w_fl_Mo_48 (by decide) d_Mo_scan_7 rfl rfl rfl ?_
      refine Ct.callV (As := [.int (nI b)]) (rest := []) hx hb hml hown hts hK hA hl.1 hW (c_Mo_seeR l G h0 mcd (nI L) mtx mpl mth mln msc mfr mdr mcm mop mkd (nI b) mnd mam mis mip msd mrg mmn mou f (nI b) (seF_in hL (by omega)) hch) (cwV 1 hts (good_V w_ml_Mo_51 w_im_Mo_see w_se_Mo_see w_ini_Mo w_code_Mo_see) rfl rfl rfl yd_Mo_see ⟨by decide, by decide⟩) [0, 1] (by decide) rfl (ci := 1) (r := vr_Mo) rfl rfl rfl rfl rfl (Nat.le_of_ble_eq_true rfl) d_Mo_scan_10 ⟨by decide, by decide⟩ (fun v w' hp => by obtain ⟨-, rfl⟩ := hp; exact Nat.le_of_ble_eq_true rfl) (fun v w' H locs hp hW => ?_)
      obtain ⟨rfl, rfl⟩ := hp
      have hW : Wd G A s.heap [(h0, .inr (1, [.int mcd, .int (nI L), .ref mtx, .int mpl, .int mth, .int mln, .ref msc, .int mfr, .ref mdr, .int mcm, .int mop, .int mkd, .int (nI b), .int mnd, .int mam, .ref mis, .ref mip, .ref msd, .ref mrg, .int mmn, .ref mou])), (mtx, .inl (G.2 2, 120, .inl f))] H locs := hW
      refine W.eq (g2 := F0 m 13 ls [.int (seF f (nI L) (nI b))]) rfl ?_
      refine lv_bipush (v := 32) hx hb d_Mo_scan_13 (by decide) ?_
      refine lv_icmp_ne (tgt := 31) hx hb d_Mo_scan_15 rfl (fun ht1 => ?_) (fun hf2 => ?_)
      · refine lv_aload_n hx hb d_Mo_scan_31 rfl (lv_at hl 0 rfl) ?_
        refine lv_aload_n hx hb d_Mo_scan_32 rfl (lv_at hl 0 rfl) ?_
        refine Wd.get hx hb hts hown hK hW 0 12 in_Mo w_fl_Mo_48 (by decide) d_Mo_scan_33 rfl rfl rfl ?_
        refine Wd.put hx hb hts hown hK hW 0 13 in_Mo t_Mo_ok n_Mo w_fl_Mo_55 (by decide) d_Mo_scan_36 rfl rfl rfl rfl rfl (Nat.le_of_ble_eq_true rfl) (fun H locs hW => ?_)
        have hW : Wd G A s.heap [(h0, .inr (1, [.int mcd, .int (nI L), .ref mtx, .int mpl, .int mth, .int mln, .ref msc, .int mfr, .ref mdr, .int mcm, .int mop, .int mkd, .int (nI b), .int (nI b), .int mam, .ref mis, .ref mip, .ref msd, .ref mrg, .int mmn, .ref mou])), (mtx, .inl (G.2 2, 120, .inl f))] H locs := hW
        refine lv_aload_n hx hb d_Mo_scan_39 rfl (lv_at hl 0 rfl) ?_
        refine lv_iconst (v := 0) hx hb d_Mo_scan_40 (by decide) ?_
        refine Wd.put hx hb hts hown hK hW 0 14 in_Mo t_Mo_ok n_Mo w_fl_Mo_58 (by decide) d_Mo_scan_41 rfl rfl rfl rfl rfl (Nat.le_of_ble_eq_true rfl) (fun H locs hW => ?_)
        have hW : Wd G A s.heap [(h0, .inr (1, [.int mcd, .int (nI L), .ref mtx, .int mpl, .int mth, .int mln, .ref msc, .int mfr, .ref mdr, .int mcm, .int mop, .int mkd, .int (nI b), .int (nI b), .int 0, .ref mis, .ref mip, .ref msd, .ref mrg, .int mmn, .ref mou])), (mtx, .inl (G.2 2, 120, .inl f))] H locs := hW
        refine lv_aload_n hx hb d_Mo_scan_44 rfl (lv_at hl 0 rfl) ?_
        refine lv_aload_n hx hb d_Mo_scan_45 rfl (lv_at hl 0 rfl) ?_
        refine Wd.get hx hb hts hown hK hW 0 12 in_Mo w_fl_Mo_48 (by decide) d_Mo_scan_46 rfl rfl rfl ?_
        refine Ct.callV (As := [.int (nI b)]) (rest := []) hx hb hml hown hts hK hA hl.1 hW (c_Mo_seeR l G h0 mcd (nI L) mtx mpl mth mln msc mfr mdr mcm mop mkd (nI b) (nI b) (0 : Int32) mis mip msd mrg mmn mou f (nI b) (seF_in hL (by omega)) hch) (cwV 1 hts (good_V w_ml_Mo_51 w_im_Mo_see w_se_Mo_see w_ini_Mo w_code_Mo_see) rfl rfl rfl yd_Mo_see ⟨by decide, by decide⟩) [0, 1] (by decide) rfl (ci := 1) (r := vr_Mo) rfl rfl rfl rfl rfl (Nat.le_of_ble_eq_true rfl) d_Mo_scan_49 ⟨by decide, by decide⟩ (fun v w' hp => by obtain ⟨-, rfl⟩ := hp; exact Nat.le_of_ble_eq_true rfl) (fun v w' H locs hp hW => ?_)
        obtain ⟨rfl, rfl⟩ := hp
        have hW : Wd G A s.heap [(h0, .inr (1, [.int mcd, .int (nI L), .ref mtx, .int mpl, .int mth, .int mln, .ref msc, .int mfr, .ref mdr, .int mcm, .int mop, .int mkd, .int (nI b), .int (nI b), .int 0, .ref mis, .ref mip, .ref msd, .ref mrg, .int mmn, .ref mou])), (mtx, .inl (G.2 2, 120, .inl f))] H locs := hW
        refine W.eq (g2 := F0 m 52 ls [.int (seF f (nI L) (nI b))]) rfl ?_
        refine lv_istore_n (lv' := [(2, .int (seF f (nI L) (nI b))), (0, .ref h0)]) hx hb d_Mo_scan_52 rfl hl (by decide) rfl (fun ls hl => ?_)
        refine lv_aload_n hx hb d_Mo_scan_53 rfl (lv_at hl 1 rfl) ?_
        refine lv_aload_n hx hb d_Mo_scan_54 rfl (lv_at hl 1 rfl) ?_
        refine Wd.get hx hb hts hown hK hW 0 12 in_Mo w_fl_Mo_48 (by decide) d_Mo_scan_55 rfl rfl rfl ?_
        refine lv_aload_n hx hb d_Mo_scan_58 rfl (lv_at hl 1 rfl) ?_
        refine Wd.get hx hb hts hown hK hW 0 1 in_Mo w_fl_Mo_45 (by decide) d_Mo_scan_59 rfl rfl rfl ?_
        refine lv_icmp_lt (tgt := 69) hx hb d_Mo_scan_62 rfl (fun ht3 => ?_) (fun hf4 => ?_)
        · refine lv_iload_n hx hb d_Mo_scan_69 rfl (lv_at hl 0 rfl) ?_
          refine Ct.callS (As := [.int (seF f (nI L) (nI b))]) (rest := [.ref h0]) hx hb hml hown hts hK hA hl.1 hW (c_Mo_isLetter l G (seF f (nI L) (nI b)) ) (va_cwS 1 hts (good_S w_ml_Mo_61 w_st_Mo_isLetter w_ini_Mo w_code_Mo_isLetter) rfl rfl rfl yd_Mo_isLetter.2 ⟨by decide, by decide⟩) [] (by decide) rfl rfl rfl (Nat.le_of_ble_eq_true rfl) d_Mo_scan_70 ⟨by decide, by decide⟩ (fun v w' hp => by obtain ⟨-, rfl⟩ := hp; exact Nat.le_of_ble_eq_true rfl) (fun v w' H locs hp hW => ?_)
          obtain ⟨rfl, rfl⟩ := hp
          have hW : Wd G A s.heap [(h0, .inr (1, [.int mcd, .int (nI L), .ref mtx, .int mpl, .int mth, .int mln, .ref msc, .int mfr, .ref mdr, .int mcm, .int mop, .int mkd, .int (nI b), .int (nI b), .int 0, .ref mis, .ref mip, .ref msd, .ref mrg, .int mmn, .ref mou])), (mtx, .inl (G.2 2, 120, .inl f))] H locs := hW
          refine W.eq (g2 := F0 m 73 ls [.int (o_Mo_isLetter_r (seF f (nI L) (nI b))), .ref h0]) rfl ?_
          refine lv_if_eq (tgt := 80) hx hb d_Mo_scan_73 rfl (fun ht5 => ?_) (fun hf6 => ?_)
          · refine lv_iload_n hx hb d_Mo_scan_80 rfl (lv_at hl 0 rfl) ?_
            refine Ct.callS (As := [.int (seF f (nI L) (nI b))]) (rest := [.ref h0]) hx hb hml hown hts hK hA hl.1 hW (c_Mo_isDigit l G (seF f (nI L) (nI b)) ) (va_cwS 1 hts (good_S w_ml_Mo_65 w_st_Mo_isDigit w_ini_Mo w_code_Mo_isDigit) rfl rfl rfl yd_Mo_isDigit.2 ⟨by decide, by decide⟩) [] (by decide) rfl rfl rfl (Nat.le_of_ble_eq_true rfl) d_Mo_scan_81 ⟨by decide, by decide⟩ (fun v w' hp => by obtain ⟨-, rfl⟩ := hp; exact Nat.le_of_ble_eq_true rfl) (fun v w' H locs hp hW => ?_)
            obtain ⟨rfl, rfl⟩ := hp
            have hW : Wd G A s.heap [(h0, .inr (1, [.int mcd, .int (nI L), .ref mtx, .int mpl, .int mth, .int mln, .ref msc, .int mfr, .ref mdr, .int mcm, .int mop, .int mkd, .int (nI b), .int (nI b), .int 0, .ref mis, .ref mip, .ref msd, .ref mrg, .int mmn, .ref mou])), (mtx, .inl (G.2 2, 120, .inl f))] H locs := hW
            refine W.eq (g2 := F0 m 84 ls [.int (o_Mo_isDigit_r (seF f (nI L) (nI b))), .ref h0]) rfl ?_
            refine lv_if_eq (tgt := 91) hx hb d_Mo_scan_84 rfl (fun ht7 => ?_) (fun hf8 => ?_)
            · refine lv_iload_n hx hb d_Mo_scan_91 rfl (lv_at hl 0 rfl) ?_
              refine Ct.callS (As := [.int (seF f (nI L) (nI b))]) (rest := [.ref h0]) hx hb hml hown hts hK hA hl.1 hW (c_Mo_isSign l G (seF f (nI L) (nI b)) ) (va_cwS 1 hts (good_S w_ml_Mo_68 w_st_Mo_isSign w_ini_Mo w_code_Mo_isSign) rfl rfl rfl yd_Mo_isSign.2 ⟨by decide, by decide⟩) [] (by decide) rfl rfl rfl (Nat.le_of_ble_eq_true rfl) d_Mo_scan_92 ⟨by decide, by decide⟩ (fun v w' hp => by obtain ⟨-, rfl⟩ := hp; exact Nat.le_of_ble_eq_true rfl) (fun v w' H locs hp hW => ?_)
              obtain ⟨rfl, rfl⟩ := hp
              have hW : Wd G A s.heap [(h0, .inr (1, [.int mcd, .int (nI L), .ref mtx, .int mpl, .int mth, .int mln, .ref msc, .int mfr, .ref mdr, .int mcm, .int mop, .int mkd, .int (nI b), .int (nI b), .int 0, .ref mis, .ref mip, .ref msd, .ref mrg, .int mmn, .ref mou])), (mtx, .inl (G.2 2, 120, .inl f))] H locs := hW
              refine W.eq (g2 := F0 m 95 ls [.int (o_Mo_isSign_r (seF f (nI L) (nI b))), .ref h0]) rfl ?_
              refine lv_if_eq (tgt := 102) hx hb d_Mo_scan_95 rfl (fun ht9 => ?_) (fun hf10 => ?_)
              · refine lv_iconst (v := 4) hx hb d_Mo_scan_102 (by decide) ?_
                refine Wd.put hx hb hts hown hK hW 0 11 in_Mo t_Mo_ok n_Mo w_fl_Mo_71 (by decide) d_Mo_scan_103 rfl rfl rfl rfl rfl (Nat.le_of_ble_eq_true rfl) (fun H locs hW => ?_)
                have hW : Wd G A s.heap [(h0, .inr (1, [.int mcd, .int (nI L), .ref mtx, .int mpl, .int mth, .int mln, .ref msc, .int mfr, .ref mdr, .int mcm, .int mop, .int 4, .int (nI b), .int (nI b), .int 0, .ref mis, .ref mip, .ref msd, .ref mrg, .int mmn, .ref mou])), (mtx, .inl (G.2 2, 120, .inl f))] H locs := hW
                refine lv_aload_n hx hb d_Mo_scan_106 rfl (lv_at hl 1 rfl) ?_
                refine Wd.get hx hb hts hown hK hW 0 11 in_Mo w_fl_Mo_71 (by decide) d_Mo_scan_107 rfl rfl rfl ?_
                refine lv_iconst (v := 1) hx hb d_Mo_scan_110 (by decide) ?_
                refine lv_icmp_ne (tgt := 141) hx hb d_Mo_scan_111 rfl (fun _ => ?_) (fun hz => absurd hz (by decide))
                refine lv_aload_n hx hb d_Mo_scan_141 rfl (lv_at hl 1 rfl) ?_
                refine Wd.get hx hb hts hown hK hW 0 11 in_Mo w_fl_Mo_71 (by decide) d_Mo_scan_142 rfl rfl rfl ?_
                refine lv_iconst (v := 2) hx hb d_Mo_scan_145 (by decide) ?_
                refine lv_icmp_ne (tgt := 241) hx hb d_Mo_scan_146 rfl (fun _ => ?_) (fun hz => absurd hz (by decide))
                refine lv_aload_n hx hb d_Mo_scan_241 rfl (lv_at hl 1 rfl) ?_
                refine Wd.get hx hb hts hown hK hW 0 11 in_Mo w_fl_Mo_71 (by decide) d_Mo_scan_242 rfl rfl rfl ?_
                refine lv_iconst (v := 3) hx hb d_Mo_scan_245 (by decide) ?_
                refine lv_icmp_ne (tgt := 259) hx hb d_Mo_scan_246 rfl (fun _ => ?_) (fun hz => absurd hz (by decide))
                exact Ct.vret hx hb hr hnl hW (by decide) (by decide) d_Mo_scan_259 (by
          have eB : mB f L pp = b := by rw [← hg, mskG_s (by omega), if_neg ht1]
          have e : mSc f L pp = (4, b, b, 0) := by unfold mSc; rw [eB, if_pos ht3, if_pos ht5, if_pos ht7, if_pos ht9]
          rw [e]
          exact ⟨rfl, rfl⟩)
              · refine lv_iconst (v := 3) hx hb d_Mo_scan_98 (by decide) ?_
                refine lv_goto (tgt := 103) hx hb d_Mo_scan_99 rfl ?_
                refine Wd.put hx hb hts hown hK hW 0 11 in_Mo t_Mo_ok n_Mo w_fl_Mo_71 (by decide) d_Mo_scan_103 rfl rfl rfl rfl rfl (Nat.le_of_ble_eq_true rfl) (fun H locs hW => ?_)
                have hW : Wd G A s.heap [(h0, .inr (1, [.int mcd, .int (nI L), .ref mtx, .int mpl, .int mth, .int mln, .ref msc, .int mfr, .ref mdr, .int mcm, .int mop, .int 3, .int (nI b), .int (nI b), .int 0, .ref mis, .ref mip, .ref msd, .ref mrg, .int mmn, .ref mou])), (mtx, .inl (G.2 2, 120, .inl f))] H locs := hW
                refine lv_aload_n hx hb d_Mo_scan_106 rfl (lv_at hl 1 rfl) ?_
                refine Wd.get hx hb hts hown hK hW 0 11 in_Mo w_fl_Mo_71 (by decide) d_Mo_scan_107 rfl rfl rfl ?_
                refine lv_iconst (v := 1) hx hb d_Mo_scan_110 (by decide) ?_
                refine lv_icmp_ne (tgt := 141) hx hb d_Mo_scan_111 rfl (fun _ => ?_) (fun hz => absurd hz (by decide))
                refine lv_aload_n hx hb d_Mo_scan_141 rfl (lv_at hl 1 rfl) ?_
                refine Wd.get hx hb hts hown hK hW 0 11 in_Mo w_fl_Mo_71 (by decide) d_Mo_scan_142 rfl rfl rfl ?_
                refine lv_iconst (v := 2) hx hb d_Mo_scan_145 (by decide) ?_
                refine lv_icmp_ne (tgt := 241) hx hb d_Mo_scan_146 rfl (fun _ => ?_) (fun hz => absurd hz (by decide))
                refine lv_aload_n hx hb d_Mo_scan_241 rfl (lv_at hl 1 rfl) ?_
                refine Wd.get hx hb hts hown hK hW 0 11 in_Mo w_fl_Mo_71 (by decide) d_Mo_scan_242 rfl rfl rfl ?_
                refine lv_iconst (v := 3) hx hb d_Mo_scan_245 (by decide) ?_
                refine lv_icmp_ne (tgt := 259) hx hb d_Mo_scan_246 rfl (fun hz => absurd (by decide) hz) (fun _ => ?_)
                refine lv_aload_n hx hb d_Mo_scan_249 rfl (lv_at hl 1 rfl) ?_
                refine lv_dup hx hb d_Mo_scan_250 rfl ?_
                refine Wd.get hx hb hts hown hK hW 0 13 in_Mo w_fl_Mo_55 (by decide) d_Mo_scan_251 rfl rfl rfl ?_
                refine lv_iconst (v := 1) hx hb d_Mo_scan_254 (by decide) ?_
                refine lv_iadd hx hb d_Mo_scan_255 ?_
                refine Wd.put hx hb hts hown hK hW 0 13 in_Mo t_Mo_ok n_Mo w_fl_Mo_55 (by decide) d_Mo_scan_256 rfl rfl rfl rfl rfl (Nat.le_of_ble_eq_true rfl) (fun H locs hW => ?_)
                have hW : Wd G A s.heap [(h0, .inr (1, [.int mcd, .int (nI L), .ref mtx, .int mpl, .int mth, .int mln, .ref msc, .int mfr, .ref mdr, .int mcm, .int mop, .int 3, .int (nI b), .int ((nI b) + 1), .int 0, .ref mis, .ref mip, .ref msd, .ref mrg, .int mmn, .ref mou])), (mtx, .inl (G.2 2, 120, .inl f))] H locs := hW
                exact Ct.vret hx hb hr hnl hW (by decide) (by decide) d_Mo_scan_259 (by
          have eB : mB f L pp = b := by rw [← hg, mskG_s (by omega), if_neg ht1]
          have e : mSc f L pp = (3, b, b + 1, 0) := by unfold mSc; rw [eB, if_pos ht3, if_pos ht5, if_pos ht7, if_neg hf10]
          rw [e]
          refine ⟨rfl, ?_⟩
          show _ = ([(h0, .inr (1, [.int mcd, .int (nI L), .ref mtx, .int mpl, .int mth, .int mln, .ref msc, .int mfr, .ref mdr, .int mcm, .int mop, .int 3, .int (nI b), .int (nI (b + 1)), .int 0, .ref mis, .ref mip, .ref msd, .ref mrg, .int mmn, .ref mou])), (mtx, .inl (G.2 2, 120, .inl f))] : va_W)
          rw [nI_succ])
            · refine lv_iconst (v := 2) hx hb d_Mo_scan_87 (by decide) ?_
              refine lv_goto (tgt := 103) hx hb d_Mo_scan_88 rfl ?_
              refine Wd.put hx hb hts hown hK hW 0 11 in_Mo t_Mo_ok n_Mo w_fl_Mo_71 (by decide) d_Mo_scan_103 rfl rfl rfl rfl rfl (Nat.le_of_ble_eq_true rfl) (fun H locs hW => ?_)
              have hW : Wd G A s.heap [(h0, .inr (1, [.int mcd, .int (nI L), .ref mtx, .int mpl, .int mth, .int mln, .ref msc, .int mfr, .ref mdr, .int mcm, .int mop, .int 2, .int (nI b), .int (nI b), .int 0, .ref mis, .ref mip, .ref msd, .ref mrg, .int mmn, .ref mou])), (mtx, .inl (G.2 2, 120, .inl f))] H locs := hW
              refine lv_aload_n hx hb d_Mo_scan_106 rfl (lv_at hl 1 rfl) ?_
              refine Wd.get hx hb hts hown hK hW 0 11 in_Mo w_fl_Mo_71 (by decide) d_Mo_scan_107 rfl rfl rfl ?_
              refine lv_iconst (v := 1) hx hb d_Mo_scan_110 (by decide) ?_
              refine lv_icmp_ne (tgt := 141) hx hb d_Mo_scan_111 rfl (fun _ => ?_) (fun hz => absurd hz (by decide))
              refine lv_aload_n hx hb d_Mo_scan_141 rfl (lv_at hl 1 rfl) ?_
              refine Wd.get hx hb hts hown hK hW 0 11 in_Mo w_fl_Mo_71 (by decide) d_Mo_scan_142 rfl rfl rfl ?_
              refine lv_iconst (v := 2) hx hb d_Mo_scan_145 (by decide) ?_
              refine lv_icmp_ne (tgt := 241) hx hb d_Mo_scan_146 rfl (fun hz => absurd (by decide) hz) (fun _ => ?_)
              have loop149 : ∀ (u : Nat) (ee : Nat) (a : Int32) (ls : Array Slot) (H : Heap) (locs : List Loc), ee ≤ L → mnG f L b (L + 1 - ee) ee a = mN f L b → (L - ee) < u → lv_has ls 3 [(0, .ref h0)] → Wd G A s.heap [(h0, .inr (1, [.int mcd, .int (nI L), .ref mtx, .int mpl, .int mth, .int mln, .ref msc, .int mfr, .ref mdr, .int mcm, .int mop, .int 2, .int (nI b), .int (nI ee), .int a, .ref mis, .ref mip, .ref msd, .ref mrg, .int mmn, .ref mou])), (mtx, .inl (G.2 2, 120, .inl f))] H locs → W p l e rm_Mo_scan s m args below meth c H locs 0 0 (MQ below (Qcc G (fun v w' => v = none ∧ w' = [(h0, .inr (1, [.int mcd, .int (nI L), .ref mtx, .int mpl, .int mth, .int mln, .ref msc, .int mfr, .ref mdr, .int mcm, .int mop, .int ((mSc f L pp).1), .int (nI (mSc f L pp).2.1), .int (nI (mSc f L pp).2.2.1), .int ((mSc f L pp).2.2.2), .ref mis, .ref mip, .ref msd, .ref mrg, .int mmn, .ref mou])), (mtx, .inl (G.2 2, 120, .inl f))]) A) args s 0 0 A) (F0 m 149 ls []) := by
                intro u
                induction u with
                | zero => intro ee a ls H locs he1 hgn hu; exact absurd hu (Nat.not_lt_zero _)
                | succ u ih149 =>
                  intro ee a ls H locs he1 hgn hu149 hl hW
                  refine lv_aload_n hx hb d_Mo_scan_149 rfl (lv_at hl 0 rfl) ?_
                  refine lv_aload_n hx hb d_Mo_scan_150 rfl (lv_at hl 0 rfl) ?_
                  refine Wd.get hx hb hts hown hK hW 0 13 in_Mo w_fl_Mo_55 (by decide) d_Mo_scan_151 rfl rfl rfl ?_
                  refine Ct.callV (As := [.int (nI ee)]) (rest := []) hx hb hml hown hts hK hA hl.1 hW (c_Mo_seeR l G h0 mcd (nI L) mtx mpl mth mln msc mfr mdr mcm mop (2 : Int32) (nI b) (nI ee) a mis mip msd mrg mmn mou f (nI ee) (seF_in hL (by omega)) hch) (cwV 1 hts (good_V w_ml_Mo_51 w_im_Mo_see w_se_Mo_see w_ini_Mo w_code_Mo_see) rfl rfl rfl yd_Mo_see ⟨by decide, by decide⟩) [0, 1] (by decide) rfl (ci := 1) (r := vr_Mo) rfl rfl rfl rfl rfl (Nat.le_of_ble_eq_true rfl) d_Mo_scan_154 ⟨by decide, by decide⟩ (fun v w' hp => by obtain ⟨-, rfl⟩ := hp; exact Nat.le_of_ble_eq_true rfl) (fun v w' H locs hp hW => ?_)
                  obtain ⟨rfl, rfl⟩ := hp
                  have hW : Wd G A s.heap [(h0, .inr (1, [.int mcd, .int (nI L), .ref mtx, .int mpl, .int mth, .int mln, .ref msc, .int mfr, .ref mdr, .int mcm, .int mop, .int 2, .int (nI b), .int (nI ee), .int a, .ref mis, .ref mip, .ref msd, .ref mrg, .int mmn, .ref mou])), (mtx, .inl (G.2 2, 120, .inl f))] H locs := hW
                  refine W.eq (g2 := F0 m 157 ls [.int (seF f (nI L) (nI ee))]) rfl ?_
                  refine Ct.callS (As := [.int (seF f (nI L) (nI ee))]) (rest := []) hx hb hml hown hts hK hA hl.1 hW (c_Mo_isDigit l G (seF f (nI L) (nI ee)) ) (va_cwS 1 hts (good_S w_ml_Mo_65 w_st_Mo_isDigit w_ini_Mo w_code_Mo_isDigit) rfl rfl rfl yd_Mo_isDigit.2 ⟨by decide, by decide⟩) [] (by decide) rfl rfl rfl (Nat.le_of_ble_eq_true rfl) d_Mo_scan_157 ⟨by decide, by decide⟩ (fun v w' hp => by obtain ⟨-, rfl⟩ := hp; exact Nat.le_of_ble_eq_true rfl) (fun v w' H locs hp hW => ?_)
                  obtain ⟨rfl, rfl⟩ := hp
                  have hW : Wd G A s.heap [(h0, .inr (1, [.int mcd, .int (nI L), .ref mtx, .int mpl, .int mth, .int mln, .ref msc, .int mfr, .ref mdr, .int mcm, .int mop, .int 2, .int (nI b), .int (nI ee), .int a, .ref mis, .ref mip, .ref msd, .ref mrg, .int mmn, .ref mou])), (mtx, .inl (G.2 2, 120, .inl f))] H locs := hW
                  refine W.eq (g2 := F0 m 160 ls [.int (o_Mo_isDigit_r (seF f (nI L) (nI ee)))]) rfl ?_
                  refine lv_if_eq (tgt := 216) hx hb d_Mo_scan_160 rfl (fun ht11 => ?_) (fun hf12 => ?_)
                  · refine lv_aload_n hx hb d_Mo_scan_216 rfl (lv_at hl 0 rfl) ?_
                    refine lv_aload_n hx hb d_Mo_scan_217 rfl (lv_at hl 0 rfl) ?_
                    refine Wd.get hx hb hts hown hK hW 0 13 in_Mo w_fl_Mo_55 (by decide) d_Mo_scan_218 rfl rfl rfl ?_
                    refine lv_aload_n hx hb d_Mo_scan_221 rfl (lv_at hl 0 rfl) ?_
                    refine Wd.get hx hb hts hown hK hW 0 12 in_Mo w_fl_Mo_48 (by decide) d_Mo_scan_222 rfl rfl rfl ?_
                    refine lv_isub hx hb d_Mo_scan_225 ?_
                    refine lv_iconst (v := 3) hx hb d_Mo_scan_226 (by decide) ?_
                    refine lv_icmp_le (tgt := 234) hx hb d_Mo_scan_227 rfl (fun ht13 => ?_) (fun hf14 => ?_)
                    · refine lv_iconst (v := 2) hx hb d_Mo_scan_234 (by decide) ?_
                      refine Wd.put hx hb hts hown hK hW 0 11 in_Mo t_Mo_ok n_Mo w_fl_Mo_71 (by decide) d_Mo_scan_235 rfl rfl rfl rfl rfl (Nat.le_of_ble_eq_true rfl) (fun H locs hW => ?_)
                      have hW : Wd G A s.heap [(h0, .inr (1, [.int mcd, .int (nI L), .ref mtx, .int mpl, .int mth, .int mln, .ref msc, .int mfr, .ref mdr, .int mcm, .int mop, .int 2, .int (nI b), .int (nI ee), .int a, .ref mis, .ref mip, .ref msd, .ref mrg, .int mmn, .ref mou])), (mtx, .inl (G.2 2, 120, .inl f))] H locs := hW
                      refine lv_goto (tgt := 259) hx hb d_Mo_scan_238 rfl ?_
                      exact Ct.vret hx hb hr hnl hW (by decide) (by decide) d_Mo_scan_259 (by
          have eB : mB f L pp = b := by rw [← hg, mskG_s (by omega), if_neg ht1]
          have eN : mN f L b = (ee, a) := by rw [← hgn, mnG_s (by omega), if_pos ht11]
          have e : mSc f L pp = (2, b, ee, a) := by unfold mSc; rw [eB, if_pos ht3, if_pos ht5, if_neg hf8, eN, if_pos ht13]
          rw [e]
          exact ⟨rfl, rfl⟩)
                    · refine lv_iconst (v := 4) hx hb d_Mo_scan_230 (by decide) ?_
                      refine lv_goto (tgt := 235) hx hb d_Mo_scan_231 rfl ?_
                      refine Wd.put hx hb hts hown hK hW 0 11 in_Mo t_Mo_ok n_Mo w_fl_Mo_71 (by decide) d_Mo_scan_235 rfl rfl rfl rfl rfl (Nat.le_of_ble_eq_true rfl) (fun H locs hW => ?_)
                      have hW : Wd G A s.heap [(h0, .inr (1, [.int mcd, .int (nI L), .ref mtx, .int mpl, .int mth, .int mln, .ref msc, .int mfr, .ref mdr, .int mcm, .int mop, .int 4, .int (nI b), .int (nI ee), .int a, .ref mis, .ref mip, .ref msd, .ref mrg, .int mmn, .ref mou])), (mtx, .inl (G.2 2, 120, .inl f))] H locs := hW
                      refine lv_goto (tgt := 259) hx hb d_Mo_scan_238 rfl ?_
                      exact Ct.vret hx hb hr hnl hW (by decide) (by decide) d_Mo_scan_259 (by
          have eB : mB f L pp = b := by rw [← hg, mskG_s (by omega), if_neg ht1]
          have eN : mN f L b = (ee, a) := by rw [← hgn, mnG_s (by omega), if_pos ht11]
          have e : mSc f L pp = (4, b, ee, a) := by unfold mSc; rw [eB, if_pos ht3, if_pos ht5, if_neg hf8, eN, if_neg hf14]
          rw [e]
          exact ⟨rfl, rfl⟩)
                  · refine lv_aload_n hx hb d_Mo_scan_163 rfl (lv_at hl 0 rfl) ?_
                    refine lv_aload_n hx hb d_Mo_scan_164 rfl (lv_at hl 0 rfl) ?_
                    refine Wd.get hx hb hts hown hK hW 0 13 in_Mo w_fl_Mo_55 (by decide) d_Mo_scan_165 rfl rfl rfl ?_
                    refine lv_aload_n hx hb d_Mo_scan_168 rfl (lv_at hl 0 rfl) ?_
                    refine Wd.get hx hb hts hown hK hW 0 12 in_Mo w_fl_Mo_48 (by decide) d_Mo_scan_169 rfl rfl rfl ?_
                    refine lv_isub hx hb d_Mo_scan_172 ?_
                    refine lv_iconst (v := 3) hx hb d_Mo_scan_173 (by decide) ?_
                    refine lv_icmp_ge (tgt := 199) hx hb d_Mo_scan_174 rfl (fun ht15 => ?_) (fun hf16 => ?_)
                    · refine lv_iconst (v := 0) hx hb d_Mo_scan_199 (by decide) ?_
                      refine Wd.put hx hb hts hown hK hW 0 14 in_Mo t_Mo_ok n_Mo w_fl_Mo_58 (by decide) d_Mo_scan_200 rfl rfl rfl rfl rfl (Nat.le_of_ble_eq_true rfl) (fun H locs hW => ?_)
                      have hW : Wd G A s.heap [(h0, .inr (1, [.int mcd, .int (nI L), .ref mtx, .int mpl, .int mth, .int mln, .ref msc, .int mfr, .ref mdr, .int mcm, .int mop, .int 2, .int (nI b), .int (nI ee), .int 0, .ref mis, .ref mip, .ref msd, .ref mrg, .int mmn, .ref mou])), (mtx, .inl (G.2 2, 120, .inl f))] H locs := hW
                      refine lv_aload_n hx hb d_Mo_scan_203 rfl (lv_at hl 0 rfl) ?_
                      refine lv_dup hx hb d_Mo_scan_204 rfl ?_
                      refine Wd.get hx hb hts hown hK hW 0 13 in_Mo w_fl_Mo_55 (by decide) d_Mo_scan_205 rfl rfl rfl ?_
                      refine lv_iconst (v := 1) hx hb d_Mo_scan_208 (by decide) ?_
                      refine lv_iadd hx hb d_Mo_scan_209 ?_
                      refine Wd.put hx hb hts hown hK hW 0 13 in_Mo t_Mo_ok n_Mo w_fl_Mo_55 (by decide) d_Mo_scan_210 rfl rfl rfl rfl rfl (Nat.le_of_ble_eq_true rfl) (fun H locs hW => ?_)
                      have hW : Wd G A s.heap [(h0, .inr (1, [.int mcd, .int (nI L), .ref mtx, .int mpl, .int mth, .int mln, .ref msc, .int mfr, .ref mdr, .int mcm, .int mop, .int 2, .int (nI b), .int ((nI ee) + 1), .int 0, .ref mis, .ref mip, .ref msd, .ref mrg, .int mmn, .ref mou])), (mtx, .inl (G.2 2, 120, .inl f))] H locs := hW
                      refine lv_goto (tgt := 149) hx hb d_Mo_scan_213 rfl ?_
                      have heL : ee < L := seF_ne (by omega) (fun q => hf12 (by rw [q]; exact dig_0))
                      have hW : Wd G A s.heap [(h0, .inr (1, [.int mcd, .int (nI L), .ref mtx, .int mpl, .int mth, .int mln, .ref msc, .int mfr, .ref mdr, .int mcm, .int mop, .int 2, .int (nI b), .int (nI (ee + 1)), .int 0, .ref mis, .ref mip, .ref msd, .ref mrg, .int mmn, .ref mou])), (mtx, .inl (G.2 2, 120, .inl f))] H locs := by
                        rw [nI_succ]
                        exact hW
                      exact ih149 (ee + 1) 0 ls H locs heL (by rw [mnG_s (by omega), if_neg hf12, if_pos ht15] at hgn; rw [show L + 1 - (ee + 1) = L + 1 - ee - 1 by omega]; exact hgn) (by omega) (lv_sub hl [0] rfl) hW
                    · refine lv_bipush (v := 10) hx hb d_Mo_scan_177 (by decide) ?_
                      refine lv_aload_n hx hb d_Mo_scan_179 rfl (lv_at hl 0 rfl) ?_
                      refine Wd.get hx hb hts hown hK hW 0 14 in_Mo w_fl_Mo_58 (by decide) d_Mo_scan_180 rfl rfl rfl ?_
                      refine lv_imul hx hb d_Mo_scan_183 ?_
                      refine lv_aload_n hx hb d_Mo_scan_184 rfl (lv_at hl 0 rfl) ?_
                      refine lv_aload_n hx hb d_Mo_scan_185 rfl (lv_at hl 0 rfl) ?_
                      refine Wd.get hx hb hts hown hK hW 0 13 in_Mo w_fl_Mo_55 (by decide) d_Mo_scan_186 rfl rfl rfl ?_
                      refine Ct.callV (As := [.int (nI ee)]) (rest := [.int (10 * a), .ref h0]) hx hb hml hown hts hK hA hl.1 hW (c_Mo_seeR l G h0 mcd (nI L) mtx mpl mth mln msc mfr mdr mcm mop (2 : Int32) (nI b) (nI ee) a mis mip msd mrg mmn mou f (nI ee) (seF_in hL (by omega)) hch) (cwV 1 hts (good_V w_ml_Mo_51 w_im_Mo_see w_se_Mo_see w_ini_Mo w_code_Mo_see) rfl rfl rfl yd_Mo_see ⟨by decide, by decide⟩) [0, 1] (by decide) rfl (ci := 1) (r := vr_Mo) rfl rfl rfl rfl rfl (Nat.le_of_ble_eq_true rfl) d_Mo_scan_189 ⟨by decide, by decide⟩ (fun v w' hp => by obtain ⟨-, rfl⟩ := hp; exact Nat.le_of_ble_eq_true rfl) (fun v w' H locs hp hW => ?_)
                      obtain ⟨rfl, rfl⟩ := hp
                      have hW : Wd G A s.heap [(h0, .inr (1, [.int mcd, .int (nI L), .ref mtx, .int mpl, .int mth, .int mln, .ref msc, .int mfr, .ref mdr, .int mcm, .int mop, .int 2, .int (nI b), .int (nI ee), .int a, .ref mis, .ref mip, .ref msd, .ref mrg, .int mmn, .ref mou])), (mtx, .inl (G.2 2, 120, .inl f))] H locs := hW
                      refine W.eq (g2 := F0 m 192 ls [.int (seF f (nI L) (nI ee)), .int (10 * a), .ref h0]) rfl ?_
                      refine lv_iadd hx hb d_Mo_scan_192 ?_
                      refine lv_bipush (v := 48) hx hb d_Mo_scan_193 (by decide) ?_
                      refine lv_isub hx hb d_Mo_scan_195 ?_
                      refine lv_goto (tgt := 200) hx hb d_Mo_scan_196 rfl ?_
                      refine Wd.put hx hb hts hown hK hW 0 14 in_Mo t_Mo_ok n_Mo w_fl_Mo_58 (by decide) d_Mo_scan_200 rfl rfl rfl rfl rfl (Nat.le_of_ble_eq_true rfl) (fun H locs hW => ?_)
                      have hW : Wd G A s.heap [(h0, .inr (1, [.int mcd, .int (nI L), .ref mtx, .int mpl, .int mth, .int mln, .ref msc, .int mfr, .ref mdr, .int mcm, .int mop, .int 2, .int (nI b), .int (nI ee), .int (((10 * a) + (seF f (nI L) (nI ee))) - 48), .ref mis, .ref mip, .ref msd, .ref mrg, .int mmn, .ref mou])), (mtx, .inl (G.2 2, 120, .inl f))] H locs := hW
                      refine lv_aload_n hx hb d_Mo_scan_203 rfl (lv_at hl 0 rfl) ?_
                      refine lv_dup hx hb d_Mo_scan_204 rfl ?_
                      refine Wd.get hx hb hts hown hK hW 0 13 in_Mo w_fl_Mo_55 (by decide) d_Mo_scan_205 rfl rfl rfl ?_
                      refine lv_iconst (v := 1) hx hb d_Mo_scan_208 (by decide) ?_
                      refine lv_iadd hx hb d_Mo_scan_209 ?_
                      refine Wd.put hx hb hts hown hK hW 0 13 in_Mo t_Mo_ok n_Mo w_fl_Mo_55 (by decide) d_Mo_scan_210 rfl rfl rfl rfl rfl (Nat.le_of_ble_eq_true rfl) (fun H locs hW => ?_)
                      have hW : Wd G A s.heap [(h0, .inr (1, [.int mcd, .int (nI L), .ref mtx, .int mpl, .int mth, .int mln, .ref msc, .int mfr, .ref mdr, .int mcm, .int mop, .int 2, .int (nI b), .int ((nI ee) + 1), .int (((10 * a) + (seF f (nI L) (nI ee))) - 48), .ref mis, .ref mip, .ref msd, .ref mrg, .int mmn, .ref mou])), (mtx, .inl (G.2 2, 120, .inl f))] H locs := hW
                      refine lv_goto (tgt := 149) hx hb d_Mo_scan_213 rfl ?_
                      have heL : ee < L := seF_ne (by omega) (fun q => hf12 (by rw [q]; exact dig_0))
                      have hW : Wd G A s.heap [(h0, .inr (1, [.int mcd, .int (nI L), .ref mtx, .int mpl, .int mth, .int mln, .ref msc, .int mfr, .ref mdr, .int mcm, .int mop, .int 2, .int (nI b), .int (nI (ee + 1)), .int (((10 * a) + (seF f (nI L) (nI ee))) - 48), .ref mis, .ref mip, .ref msd, .ref mrg, .int mmn, .ref mou])), (mtx, .inl (G.2 2, 120, .inl f))] H locs := by
                        rw [nI_succ]
                        exact hW
                      exact ih149 (ee + 1) (((10 * a) + (seF f (nI L) (nI ee))) - 48) ls H locs heL (by rw [mnG_s (by omega), if_neg hf12, if_neg hf16] at hgn; rw [show L + 1 - (ee + 1) = L + 1 - ee - 1 by omega]; exact hgn) (by omega) (lv_sub hl [0] rfl) hW
              exact loop149 (_ + 1) b 0 ls H locs hb1 rfl (Nat.lt_succ_self _) (lv_sub hl [1] rfl) hW
          · refine lv_iconst (v := 1) hx hb d_Mo_scan_76 (by decide) ?_
            refine lv_goto (tgt := 103) hx hb d_Mo_scan_77 rfl ?_
            refine Wd.put hx hb hts hown hK hW 0 11 in_Mo t_Mo_ok n_Mo w_fl_Mo_71 (by decide) d_Mo_scan_103 rfl rfl rfl rfl rfl (Nat.le_of_ble_eq_true rfl) (fun H locs hW => ?_)
            have hW : Wd G A s.heap [(h0, .inr (1, [.int mcd, .int (nI L), .ref mtx, .int mpl, .int mth, .int mln, .ref msc, .int mfr, .ref mdr, .int mcm, .int mop, .int 1, .int (nI b), .int (nI b), .int 0, .ref mis, .ref mip, .ref msd, .ref mrg, .int mmn, .ref mou])), (mtx, .inl (G.2 2, 120, .inl f))] H locs := hW
            refine lv_aload_n hx hb d_Mo_scan_106 rfl (lv_at hl 1 rfl) ?_
            refine Wd.get hx hb hts hown hK hW 0 11 in_Mo w_fl_Mo_71 (by decide) d_Mo_scan_107 rfl rfl rfl ?_
            refine lv_iconst (v := 1) hx hb d_Mo_scan_110 (by decide) ?_
            refine lv_icmp_ne (tgt := 141) hx hb d_Mo_scan_111 rfl (fun hz => absurd (by decide) hz) (fun _ => ?_)
            have loop114 : ∀ (u : Nat) (ee : Nat) (ls : Array Slot) (H : Heap) (locs : List Loc), ee ≤ L → mwG f L (L + 1 - ee) ee = mW f L b → (L - ee) < u → lv_has ls 3 [(0, .ref h0)] → Wd G A s.heap [(h0, .inr (1, [.int mcd, .int (nI L), .ref mtx, .int mpl, .int mth, .int mln, .ref msc, .int mfr, .ref mdr, .int mcm, .int mop, .int 1, .int (nI b), .int (nI ee), .int 0, .ref mis, .ref mip, .ref msd, .ref mrg, .int mmn, .ref mou])), (mtx, .inl (G.2 2, 120, .inl f))] H locs → W p l e rm_Mo_scan s m args below meth c H locs 0 0 (MQ below (Qcc G (fun v w' => v = none ∧ w' = [(h0, .inr (1, [.int mcd, .int (nI L), .ref mtx, .int mpl, .int mth, .int mln, .ref msc, .int mfr, .ref mdr, .int mcm, .int mop, .int ((mSc f L pp).1), .int (nI (mSc f L pp).2.1), .int (nI (mSc f L pp).2.2.1), .int ((mSc f L pp).2.2.2), .ref mis, .ref mip, .ref msd, .ref mrg, .int mmn, .ref mou])), (mtx, .inl (G.2 2, 120, .inl f))]) A) args s 0 0 A) (F0 m 114 ls []) := by
              intro u
              induction u with
              | zero => intro ee ls H locs he1 hgw hu; exact absurd hu (Nat.not_lt_zero _)
              | succ u ih114 =>
                intro ee ls H locs he1 hgw hu114 hl hW
                refine lv_aload_n hx hb d_Mo_scan_114 rfl (lv_at hl 0 rfl) ?_
                refine lv_aload_n hx hb d_Mo_scan_115 rfl (lv_at hl 0 rfl) ?_
                refine Wd.get hx hb hts hown hK hW 0 13 in_Mo w_fl_Mo_55 (by decide) d_Mo_scan_116 rfl rfl rfl ?_
                refine Ct.callV (As := [.int (nI ee)]) (rest := []) hx hb hml hown hts hK hA hl.1 hW (c_Mo_seeR l G h0 mcd (nI L) mtx mpl mth mln msc mfr mdr mcm mop (1 : Int32) (nI b) (nI ee) 0 mis mip msd mrg mmn mou f (nI ee) (seF_in hL (by omega)) hch) (cwV 1 hts (good_V w_ml_Mo_51 w_im_Mo_see w_se_Mo_see w_ini_Mo w_code_Mo_see) rfl rfl rfl yd_Mo_see ⟨by decide, by decide⟩) [0, 1] (by decide) rfl (ci := 1) (r := vr_Mo) rfl rfl rfl rfl rfl (Nat.le_of_ble_eq_true rfl) d_Mo_scan_119 ⟨by decide, by decide⟩ (fun v w' hp => by obtain ⟨-, rfl⟩ := hp; exact Nat.le_of_ble_eq_true rfl) (fun v w' H locs hp hW => ?_)
                obtain ⟨rfl, rfl⟩ := hp
                have hW : Wd G A s.heap [(h0, .inr (1, [.int mcd, .int (nI L), .ref mtx, .int mpl, .int mth, .int mln, .ref msc, .int mfr, .ref mdr, .int mcm, .int mop, .int 1, .int (nI b), .int (nI ee), .int 0, .ref mis, .ref mip, .ref msd, .ref mrg, .int mmn, .ref mou])), (mtx, .inl (G.2 2, 120, .inl f))] H locs := hW
                refine W.eq (g2 := F0 m 122 ls [.int (seF f (nI L) (nI ee))]) rfl ?_
                refine Ct.callS (As := [.int (seF f (nI L) (nI ee))]) (rest := []) hx hb hml hown hts hK hA hl.1 hW (c_Mo_isLetter l G (seF f (nI L) (nI ee)) ) (va_cwS 1 hts (good_S w_ml_Mo_61 w_st_Mo_isLetter w_ini_Mo w_code_Mo_isLetter) rfl rfl rfl yd_Mo_isLetter.2 ⟨by decide, by decide⟩) [] (by decide) rfl rfl rfl (Nat.le_of_ble_eq_true rfl) d_Mo_scan_122 ⟨by decide, by decide⟩ (fun v w' hp => by obtain ⟨-, rfl⟩ := hp; exact Nat.le_of_ble_eq_true rfl) (fun v w' H locs hp hW => ?_)
                obtain ⟨rfl, rfl⟩ := hp
                have hW : Wd G A s.heap [(h0, .inr (1, [.int mcd, .int (nI L), .ref mtx, .int mpl, .int mth, .int mln, .ref msc, .int mfr, .ref mdr, .int mcm, .int mop, .int 1, .int (nI b), .int (nI ee), .int 0, .ref mis, .ref mip, .ref msd, .ref mrg, .int mmn, .ref mou])), (mtx, .inl (G.2 2, 120, .inl f))] H locs := hW
                refine W.eq (g2 := F0 m 125 ls [.int (o_Mo_isLetter_r (seF f (nI L) (nI ee)))]) rfl ?_
                refine lv_if_eq (tgt := 259) hx hb d_Mo_scan_125 rfl (fun ht17 => ?_) (fun hf18 => ?_)
                · exact Ct.vret hx hb hr hnl hW (by decide) (by decide) d_Mo_scan_259 (by
          have eB : mB f L pp = b := by rw [← hg, mskG_s (by omega), if_neg ht1]
          have eW : mW f L b = ee := by rw [← hgw, mwG_s (by omega), if_pos ht17]
          have e : mSc f L pp = (1, b, ee, 0) := by unfold mSc; rw [eB, if_pos ht3, if_neg hf6, eW]
          rw [e]
          exact ⟨rfl, rfl⟩)
                · refine lv_aload_n hx hb d_Mo_scan_128 rfl (lv_at hl 0 rfl) ?_
                  refine lv_dup hx hb d_Mo_scan_129 rfl ?_
                  refine Wd.get hx hb hts hown hK hW 0 13 in_Mo w_fl_Mo_55 (by decide) d_Mo_scan_130 rfl rfl rfl ?_
                  refine lv_iconst (v := 1) hx hb d_Mo_scan_133 (by decide) ?_
                  refine lv_iadd hx hb d_Mo_scan_134 ?_
                  refine Wd.put hx hb hts hown hK hW 0 13 in_Mo t_Mo_ok n_Mo w_fl_Mo_55 (by decide) d_Mo_scan_135 rfl rfl rfl rfl rfl (Nat.le_of_ble_eq_true rfl) (fun H locs hW => ?_)
                  have hW : Wd G A s.heap [(h0, .inr (1, [.int mcd, .int (nI L), .ref mtx, .int mpl, .int mth, .int mln, .ref msc, .int mfr, .ref mdr, .int mcm, .int mop, .int 1, .int (nI b), .int ((nI ee) + 1), .int 0, .ref mis, .ref mip, .ref msd, .ref mrg, .int mmn, .ref mou])), (mtx, .inl (G.2 2, 120, .inl f))] H locs := hW
                  refine lv_goto (tgt := 114) hx hb d_Mo_scan_138 rfl ?_
                  have heL : ee < L := seF_ne (by omega) (fun q => hf18 (by rw [q]; exact ltr_0))
                  have hW : Wd G A s.heap [(h0, .inr (1, [.int mcd, .int (nI L), .ref mtx, .int mpl, .int mth, .int mln, .ref msc, .int mfr, .ref mdr, .int mcm, .int mop, .int 1, .int (nI b), .int (nI (ee + 1)), .int 0, .ref mis, .ref mip, .ref msd, .ref mrg, .int mmn, .ref mou])), (mtx, .inl (G.2 2, 120, .inl f))] H locs := by
                    rw [nI_succ]
                    exact hW
                  exact ih114 (ee + 1) ls H locs heL (by rw [mwG_s (by omega), if_neg hf18] at hgw; rw [show L + 1 - (ee + 1) = L + 1 - ee - 1 by omega]; exact hgw) (by omega) (lv_sub hl [0] rfl) hW
            exact loop114 (_ + 1) b ls H locs hb1 rfl (Nat.lt_succ_self _) (lv_sub hl [1] rfl) hW
        · refine lv_iconst (v := 0) hx hb d_Mo_scan_65 (by decide) ?_
          refine lv_goto (tgt := 103) hx hb d_Mo_scan_66 rfl ?_
          refine Wd.put hx hb hts hown hK hW 0 11 in_Mo t_Mo_ok n_Mo w_fl_Mo_71 (by decide) d_Mo_scan_103 rfl rfl rfl rfl rfl (Nat.le_of_ble_eq_true rfl) (fun H locs hW => ?_)
          have hW : Wd G A s.heap [(h0, .inr (1, [.int mcd, .int (nI L), .ref mtx, .int mpl, .int mth, .int mln, .ref msc, .int mfr, .ref mdr, .int mcm, .int mop, .int 0, .int (nI b), .int (nI b), .int 0, .ref mis, .ref mip, .ref msd, .ref mrg, .int mmn, .ref mou])), (mtx, .inl (G.2 2, 120, .inl f))] H locs := hW
          refine lv_aload_n hx hb d_Mo_scan_106 rfl (lv_at hl 1 rfl) ?_
          refine Wd.get hx hb hts hown hK hW 0 11 in_Mo w_fl_Mo_71 (by decide) d_Mo_scan_107 rfl rfl rfl ?_
          refine lv_iconst (v := 1) hx hb d_Mo_scan_110 (by decide) ?_
          refine lv_icmp_ne (tgt := 141) hx hb d_Mo_scan_111 rfl (fun _ => ?_) (fun hz => absurd hz (by decide))
          refine lv_aload_n hx hb d_Mo_scan_141 rfl (lv_at hl 1 rfl) ?_
          refine Wd.get hx hb hts hown hK hW 0 11 in_Mo w_fl_Mo_71 (by decide) d_Mo_scan_142 rfl rfl rfl ?_
          refine lv_iconst (v := 2) hx hb d_Mo_scan_145 (by decide) ?_
          refine lv_icmp_ne (tgt := 241) hx hb d_Mo_scan_146 rfl (fun _ => ?_) (fun hz => absurd hz (by decide))
          refine lv_aload_n hx hb d_Mo_scan_241 rfl (lv_at hl 1 rfl) ?_
          refine Wd.get hx hb hts hown hK hW 0 11 in_Mo w_fl_Mo_71 (by decide) d_Mo_scan_242 rfl rfl rfl ?_
          refine lv_iconst (v := 3) hx hb d_Mo_scan_245 (by decide) ?_
          refine lv_icmp_ne (tgt := 259) hx hb d_Mo_scan_246 rfl (fun _ => ?_) (fun hz => absurd hz (by decide))
          exact Ct.vret hx hb hr hnl hW (by decide) (by decide) d_Mo_scan_259 (by
          have eB : mB f L pp = b := by rw [← hg, mskG_s (by omega), if_neg ht1]
          have e : mSc f L pp = (0, b, b, 0) := by unfold mSc; rw [eB, if_neg hf4]
          rw [e]
          exact ⟨rfl, rfl⟩)
      · refine lv_aload_n hx hb d_Mo_scan_18 rfl (lv_at hl 0 rfl) ?_
        refine lv_dup hx hb d_Mo_scan_19 rfl ?_
        refine Wd.get hx hb hts hown hK hW 0 12 in_Mo w_fl_Mo_48 (by decide) d_Mo_scan_20 rfl rfl rfl ?_
        refine lv_iconst (v := 1) hx hb d_Mo_scan_23 (by decide) ?_
        refine lv_iadd hx hb d_Mo_scan_24 ?_
        refine Wd.put hx hb hts hown hK hW 0 12 in_Mo t_Mo_ok n_Mo w_fl_Mo_48 (by decide) d_Mo_scan_25 rfl rfl rfl rfl rfl (Nat.le_of_ble_eq_true rfl) (fun H locs hW => ?_)
        have hW : Wd G A s.heap [(h0, .inr (1, [.int mcd, .int (nI L), .ref mtx, .int mpl, .int mth, .int mln, .ref msc, .int mfr, .ref mdr, .int mcm, .int mop, .int mkd, .int ((nI b) + 1), .int mnd, .int mam, .ref mis, .ref mip, .ref msd, .ref mrg, .int mmn, .ref mou])), (mtx, .inl (G.2 2, 120, .inl f))] H locs := hW
        refine lv_goto (tgt := 5) hx hb d_Mo_scan_28 rfl ?_
        have hbL : b < L := seF_ne (by omega) (by rw [hf2]; decide)
        have hW : Wd G A s.heap [(h0, .inr (1, [.int mcd, .int (nI L), .ref mtx, .int mpl, .int mth, .int mln, .ref msc, .int mfr, .ref mdr, .int mcm, .int mop, .int mkd, .int (nI (b + 1)), .int mnd, .int mam, .ref mis, .ref mip, .ref msd, .ref mrg, .int mmn, .ref mou])), (mtx, .inl (G.2 2, 120, .inl f))] H locs := by
          rw [nI_succ]
          exact hW
        exact ih5 (b + 1) ls H locs hbL (by rw [mskG_s (by omega), if_pos hf2] at hg; rw [show L + 1 - (b + 1) = L + 1 - b - 1 by omega]; exact hg) (by omega) (lv_sub hl [0] rfl) hW
  exact loop5 (_ + 1) pp ls H locs hp rfl (Nat.lt_succ_self _) (lv_sub hl [0] rfl) hW

