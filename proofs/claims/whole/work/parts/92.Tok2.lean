/-! tokens, one by one -/
/-- a token's end, kind and value -/
def tkT (f : Nat → Int32) (L b : Nat) : Nat × Int32 × Int32 :=
  if o_Tokens_isLetter_r (f b) = 0 then
    if o_Tokens_isDecimal_r (f b) = 0 then (b + 1, if o_JStringLatin1_indexOfChar_r (f b) < 0 then 7 else 3, f b)
    else ((nEnd f L b).1, if 3 < nI (nEnd f L b).1 - nI b then 7 else 2, (nEnd f L b).2)
  else (wEnd f L (b + 1), wdK f b (wEnd f L (b + 1)), f b - 97)
theorem wE_le {f : Nat → Int32} : ∀ (u e : Nat), e ≤ wE f u e ∧ wE f u e ≤ e + u
  | 0, e => ⟨Nat.le_refl _, Nat.le_refl _⟩
  | u + 1, e => by
    show e ≤ (if o_Tokens_isLetter_r (f e) = 0 then e else wE f u (e + 1)) ∧ (if o_Tokens_isLetter_r (f e) = 0 then e else wE f u (e + 1)) ≤ e + (u + 1)
    split
    · exact ⟨Nat.le_refl _, by omega⟩
    · have := wE_le (f := f) u (e + 1)
      omega
theorem nE_le {f : Nat → Int32} : ∀ (u e : Nat) (n : Int32), e ≤ (nE f u e n).1 ∧ (nE f u e n).1 ≤ e + u
  | 0, e, n => ⟨Nat.le_refl _, Nat.le_refl _⟩
  | u + 1, e, n => by
    show e ≤ (if o_Tokens_isDecimal_r (f e) = 0 then (e, n) else nE f u (e + 1) (10 * n + f e - 48)).1 ∧ (if o_Tokens_isDecimal_r (f e) = 0 then (e, n) else nE f u (e + 1) (10 * n + f e - 48)).1 ≤ e + (u + 1)
    split
    · exact ⟨Nat.le_refl _, by omega⟩
    · have := nE_le (f := f) u (e + 1) (10 * n + f e - 48)
      omega
theorem tkT_le {f : Nat → Int32} {L b : Nat} (hb : b < L) : b < (tkT f L b).1 ∧ (tkT f L b).1 ≤ L := by
  unfold tkT
  split
  · split
    · exact ⟨Nat.lt_succ_self _, hb⟩
    · next h1 h2 =>
      show b < (nE f (L - b) b 0).1 ∧ (nE f (L - b) b 0).1 ≤ L
      rw [nE_s (by omega), if_neg h2]
      have := nE_le (f := f) (L - b - 1) (b + 1) (10 * 0 + f b - 48)
      omega
  · show b < wE f (L - (b + 1)) (b + 1) ∧ wE f (L - (b + 1)) (b + 1) ≤ L
    have := wE_le (f := f) (L - (b + 1)) (b + 1)
    omega
/-- all tokens from place p on -/
def scG (f : Nat → Int32) (L : Nat) : Nat → Nat → (Nat → Int32) × (Nat → Int32) × (Nat → Int32) × Nat → (Nat → Int32) × (Nat → Int32) × (Nat → Int32) × Nat
  | 0, _, X => X
  | u + 1, p, X => if L ≤ p then X else if f p = 32 then scG f L u (p + 1) X else scG f L u (tkT f L p).1 (upd X.1 (nI X.2.2.2).toNatClampNeg (tkT f L p).2.1, upd X.2.1 (nI X.2.2.2).toNatClampNeg (nI p), upd X.2.2.1 (nI X.2.2.2).toNatClampNeg (tkT f L p).2.2, X.2.2.2 + 1)
theorem scG_s {f : Nat → Int32} {L u p : Nat} {X : (Nat → Int32) × (Nat → Int32) × (Nat → Int32) × Nat} (hu : 0 < u) : scG f L u p X = if L ≤ p then X else if f p = 32 then scG f L (u - 1) (p + 1) X else scG f L (u - 1) (tkT f L p).1 (upd X.1 (nI X.2.2.2).toNatClampNeg (tkT f L p).2.1, upd X.2.1 (nI X.2.2.2).toNatClampNeg (nI p), upd X.2.2.1 (nI X.2.2.2).toNatClampNeg (tkT f L p).2.2, X.2.2.2 + 1) := by
  obtain ⟨v, rfl⟩ : ∃ v, u = v + 1 := ⟨u - 1, by omega⟩
  rfl
/-- more steps than characters are enough -/
theorem scG_fuel {f : Nat → Int32} {L : Nat} : ∀ (u v p : Nat) (X : (Nat → Int32) × (Nat → Int32) × (Nat → Int32) × Nat), L < u + p → L < v + p → scG f L u p X = scG f L v p X
  | 0, v, p, X, h1, h2 => by
    cases v with
    | zero => rfl
    | succ v =>
      show X = _
      rw [scG_s (u := v + 1) (by omega), if_pos (by omega)]
  | u + 1, v, p, X, h1, h2 => by
    by_cases hp : L ≤ p
    · cases v with
      | zero =>
        rw [scG_s (by omega), if_pos hp]
        rfl
      | succ v => rw [scG_s (by omega), if_pos hp, scG_s (u := v + 1) (by omega), if_pos hp]
    · rw [scG_s (by omega), if_neg hp, scG_s (u := v) (by omega), if_neg hp]
      have ht := tkT_le (f := f) (L := L) (b := p) (by omega)
      split
      · exact scG_fuel u (v - 1) (p + 1) X (by omega) (by omega)
      · exact scG_fuel u (v - 1) _ _ (by omega) (by omega)
theorem nI_nge {c : Nat} (h : c ≤ 120) : ¬ (121 : Int32) ≤ nI c := nI_ge (b := 121) (a := c) (by omega) (by decide)
theorem nI_ge0 (n : Nat) (h : n < 2 ^ 31) : ¬ nI n < 0 := nI_pos h

abbrev rm_cx_Tokens_scanWord : Room := { frames := 5, cells := 0, slots := 0, locals := 109 }
set_option maxHeartbeats 4000000 in
set_option maxRecDepth 100000 in
theorem cx_Tokens_scanWord (l : Launch) (G : Gt) (V : Ev) (hfl : l.flags = flags0) (h0 : Nat) (h0t : Nat) (h0k : Nat) (h0b : Nat) (h0v : Nat) (cn : Nat) (f : Nat → Int32) (kd : Nat → Int32) (bg : Nat → Int32) (vl : Nat → Int32) (b : Nat) (L : Nat) (hbL : b < L) (hL : L ≤ 120) (hc : cn ≤ 120) : CtX l G V y_Tokens_scanWord (.code y_Tokens_scanWord b_Tokens_scanWord 5 (some .int)) rm_cx_Tokens_scanWord [.ref h0, .int (nI b), .int (nI L)] [(h0, .inr (11, [.ref h0t, .ref h0k, .ref h0b, .ref h0v, .int (nI cn)])), (h0t, .inl (G.2 2, 120, .inl f)), (h0k, .inl (G.2 0, 121, .inl kd)), (h0b, .inl (G.2 0, 121, .inl bg)), (h0v, .inl (G.2 0, 121, .inl vl))] 0 0 (fun o w' => o = .inl (some (.int (nI (wEnd f L (b + 1))))) ∧ w' = [(h0, .inr (11, [.ref h0t, .ref h0k, .ref h0b, .ref h0v, .int (nI cn + 1)])), (h0t, .inl (G.2 2, 120, .inl f)), (h0k, .inl (G.2 0, 121, .inl (upd kd (nI cn).toNatClampNeg (wdK f b (wEnd f L (b + 1)))))), (h0b, .inl (G.2 0, 121, .inl (upd bg (nI cn).toNatClampNeg (nI b)))), (h0v, .inl (G.2 0, 121, .inl (upd vl (nI cn).toNatClampNeg (f b - 97))))]) := by
  refine CtX.of HdOf.code (by decide) (Nat.le_of_ble_eq_true rfl) (fun p e s m args below meth c A ls H locs hx hb hml hr hnl hown hts hnm hK hA hl hW hE htab => ?_)
  have hl : lv_has ls 5 [(0, .ref h0), (1, .int (nI b)), (2, .int (nI L))] := hl
  refine lv_iload_n hx hb d_Tokens_scanWord_0 rfl (lv_at hl 1 rfl) ?_
  refine lv_iconst (v := 1) hx hb d_Tokens_scanWord_1 (by decide) ?_
  refine lv_iadd hx hb d_Tokens_scanWord_2 ?_
  refine lv_topi (fun cz ez => ?_)
  obtain rfl : cz = nI (b + 1) := ez.trans (nI_succ b).symm
  refine lv_istore_n (lv' := [(3, .int (nI (b + 1))), (0, .ref h0), (1, .int (nI b)), (2, .int (nI L))]) hx hb d_Tokens_scanWord_3 rfl hl (by decide) rfl (fun ls hl => ?_)
  have loop4 : ∀ (u : Nat) (ee : Nat) (ls : Array Slot) (H : Heap) (locs : List Loc), b + 1 ≤ ee → ee ≤ L → wE f (L - ee) ee = wEnd f L (b + 1) → (L - ee) < u → lv_has ls 5 [(0, .ref h0), (1, .int (nI b)), (2, .int (nI L)), (3, .int (nI ee))] → Wd G A s.heap [(h0, .inr (11, [.ref h0t, .ref h0k, .ref h0b, .ref h0v, .int (nI cn)])), (h0t, .inl (G.2 2, 120, .inl f)), (h0k, .inl (G.2 0, 121, .inl kd)), (h0b, .inl (G.2 0, 121, .inl bg)), (h0v, .inl (G.2 0, 121, .inl vl))] H locs → W p l e rm_cx_Tokens_scanWord s m args below meth c H locs 0 0 (MQX below (QX G (fun o w' => o = .inl (some (.int (nI (wEnd f L (b + 1))))) ∧ w' = [(h0, .inr (11, [.ref h0t, .ref h0k, .ref h0b, .ref h0v, .int (nI cn + 1)])), (h0t, .inl (G.2 2, 120, .inl f)), (h0k, .inl (G.2 0, 121, .inl (upd kd (nI cn).toNatClampNeg (wdK f b (wEnd f L (b + 1)))))), (h0b, .inl (G.2 0, 121, .inl (upd bg (nI cn).toNatClampNeg (nI b)))), (h0v, .inl (G.2 0, 121, .inl (upd vl (nI cn).toNatClampNeg (f b - 97))))]) A) args s 0 0 A) (F0 m 4 ls []) := by
    intro u
    induction u with
    | zero => intro ee ls H locs he1 he2 hg hu; exact absurd hu (Nat.not_lt_zero _)
    | succ u ih4 =>
      intro ee ls H locs he1 he2 hg hu4 hl hW
      refine lv_iload_n hx hb d_Tokens_scanWord_4 rfl (lv_at hl 3 rfl) ?_
      refine lv_iload_n hx hb d_Tokens_scanWord_5 rfl (lv_at hl 2 rfl) ?_
      refine lv_icmp_ge (tgt := 27) hx hb d_Tokens_scanWord_6 rfl (fun ht1 => ?_) (fun hf2 => ?_)
      · have heL : ee = L := by have := (nI_leI (a := L) (b := ee) (by omega) (by omega)).mp ht1; omega
        refine lv_bipush (v := 7) hx hb d_Tokens_scanWord_27 (by decide) ?_
        refine lv_istore (lv' := [(4, .int 7), (0, .ref h0), (1, .int (nI b)), (2, .int (nI L)), (3, .int (nI ee))]) hx hb d_Tokens_scanWord_29 hl (by decide) rfl (fun ls hl => ?_)
        refine lv_iload_n hx hb d_Tokens_scanWord_31 rfl (lv_at hl 4 rfl) ?_
        refine lv_iload_n hx hb d_Tokens_scanWord_32 rfl (lv_at hl 2 rfl) ?_
        refine lv_iconst (v := 1) hx hb d_Tokens_scanWord_33 (by decide) ?_
        refine lv_iadd hx hb d_Tokens_scanWord_34 ?_
        refine lv_icmp_ne (tgt := 44) hx hb d_Tokens_scanWord_35 rfl (fun ht3 => ?_) (fun hf4 => ?_)
        · refine lv_aload_n hx hb d_Tokens_scanWord_44 rfl (lv_at hl 1 rfl) ?_
          refine va_ldcS (own := "ThreeClerks$Tokens") (index := 69) (tx := sTx 0) (q := V.1 0) hx hb hown (hE.2.1 0 (by decide)) d_Tokens_scanWord_45 ?_
          refine lv_iload_n hx hb d_Tokens_scanWord_47 rfl (lv_at hl 2 rfl) ?_
          refine lv_iload_n hx hb d_Tokens_scanWord_48 rfl (lv_at hl 4 rfl) ?_
          refine CtX.callV (C := "ThreeClerks$Tokens") (As := [.ref (V.1 0), .int (nI b), .int (nI ee)]) (rest := []) hx hb hml hown hts hK hE hA hl.1 hW (cx_Tokens_isWord0 l G V hfl h0 h0t h0k h0b h0v (nI cn) b ee f (by omega) (by omega)) w_ml_Tokens_71 w_im_Tokens_isWord w_se_Tokens_isWord w_ini_Tokens w_code_Tokens_isWord yd_Tokens_isWord.2 [0, 1] (by decide) rfl (ci := 11) (r := vr_Tokens) rfl rfl rfl rfl rfl (Nat.le_of_ble_eq_true rfl) d_Tokens_scanWord_49 (by decide) (by decide) rfl rfl ⟨by decide, by decide⟩ (fun o w' hp => by rw [hp.2]; exact Nat.le_of_ble_eq_true rfl) (fun v w' H locs hp hW => ?_) (fun X a cell w' H locs hp => absurd hp.1 (fun h => by cases h))
          obtain ⟨hv, rfl⟩ := hp
          cases hv
          have hW : Wd G A s.heap [(h0, .inr (11, [.ref h0t, .ref h0k, .ref h0b, .ref h0v, .int (nI cn)])), (h0t, .inl (G.2 2, 120, .inl f)), (h0k, .inl (G.2 0, 121, .inl kd)), (h0b, .inl (G.2 0, 121, .inl bg)), (h0v, .inl (G.2 0, 121, .inl vl))] H locs := hW
          refine W.eq (g2 := F0 m 52 ls [.int (o_Tokens_isWord0_r b ee f)]) rfl ?_
          refine lv_if_eq (tgt := 61) hx hb d_Tokens_scanWord_52 rfl (fun ht5 => ?_) (fun hf6 => ?_)
          · refine lv_aload_n hx hb d_Tokens_scanWord_61 rfl (lv_at hl 1 rfl) ?_
            refine va_ldcS (own := "ThreeClerks$Tokens") (index := 75) (tx := sTx 1) (q := V.1 1) hx hb hown (hE.2.1 1 (by decide)) d_Tokens_scanWord_62 ?_
            refine lv_iload_n hx hb d_Tokens_scanWord_64 rfl (lv_at hl 2 rfl) ?_
            refine lv_iload_n hx hb d_Tokens_scanWord_65 rfl (lv_at hl 4 rfl) ?_
            refine CtX.callV (C := "ThreeClerks$Tokens") (As := [.ref (V.1 1), .int (nI b), .int (nI ee)]) (rest := []) hx hb hml hown hts hK hE hA hl.1 hW (cx_Tokens_isWord1 l G V hfl h0 h0t h0k h0b h0v (nI cn) b ee f (by omega) (by omega)) w_ml_Tokens_71 w_im_Tokens_isWord w_se_Tokens_isWord w_ini_Tokens w_code_Tokens_isWord yd_Tokens_isWord.2 [0, 1] (by decide) rfl (ci := 11) (r := vr_Tokens) rfl rfl rfl rfl rfl (Nat.le_of_ble_eq_true rfl) d_Tokens_scanWord_66 (by decide) (by decide) rfl rfl ⟨by decide, by decide⟩ (fun o w' hp => by rw [hp.2]; exact Nat.le_of_ble_eq_true rfl) (fun v w' H locs hp hW => ?_) (fun X a cell w' H locs hp => absurd hp.1 (fun h => by cases h))
            obtain ⟨hv, rfl⟩ := hp
            cases hv
            have hW : Wd G A s.heap [(h0, .inr (11, [.ref h0t, .ref h0k, .ref h0b, .ref h0v, .int (nI cn)])), (h0t, .inl (G.2 2, 120, .inl f)), (h0k, .inl (G.2 0, 121, .inl kd)), (h0b, .inl (G.2 0, 121, .inl bg)), (h0v, .inl (G.2 0, 121, .inl vl))] H locs := hW
            refine W.eq (g2 := F0 m 69 ls [.int (o_Tokens_isWord1_r b ee f)]) rfl ?_
            refine lv_if_eq (tgt := 78) hx hb d_Tokens_scanWord_69 rfl (fun ht7 => ?_) (fun hf8 => ?_)
            · refine lv_aload_n hx hb d_Tokens_scanWord_78 rfl (lv_at hl 1 rfl) ?_
              refine va_ldcS (own := "ThreeClerks$Tokens") (index := 77) (tx := sTx 2) (q := V.1 2) hx hb hown (hE.2.1 2 (by decide)) d_Tokens_scanWord_79 ?_
              refine lv_iload_n hx hb d_Tokens_scanWord_81 rfl (lv_at hl 2 rfl) ?_
              refine lv_iload_n hx hb d_Tokens_scanWord_82 rfl (lv_at hl 4 rfl) ?_
              refine CtX.callV (C := "ThreeClerks$Tokens") (As := [.ref (V.1 2), .int (nI b), .int (nI ee)]) (rest := []) hx hb hml hown hts hK hE hA hl.1 hW (cx_Tokens_isWord2 l G V hfl h0 h0t h0k h0b h0v (nI cn) b ee f (by omega) (by omega)) w_ml_Tokens_71 w_im_Tokens_isWord w_se_Tokens_isWord w_ini_Tokens w_code_Tokens_isWord yd_Tokens_isWord.2 [0, 1] (by decide) rfl (ci := 11) (r := vr_Tokens) rfl rfl rfl rfl rfl (Nat.le_of_ble_eq_true rfl) d_Tokens_scanWord_83 (by decide) (by decide) rfl rfl ⟨by decide, by decide⟩ (fun o w' hp => by rw [hp.2]; exact Nat.le_of_ble_eq_true rfl) (fun v w' H locs hp hW => ?_) (fun X a cell w' H locs hp => absurd hp.1 (fun h => by cases h))
              obtain ⟨hv, rfl⟩ := hp
              cases hv
              have hW : Wd G A s.heap [(h0, .inr (11, [.ref h0t, .ref h0k, .ref h0b, .ref h0v, .int (nI cn)])), (h0t, .inl (G.2 2, 120, .inl f)), (h0k, .inl (G.2 0, 121, .inl kd)), (h0b, .inl (G.2 0, 121, .inl bg)), (h0v, .inl (G.2 0, 121, .inl vl))] H locs := hW
              refine W.eq (g2 := F0 m 86 ls [.int (o_Tokens_isWord2_r b ee f)]) rfl ?_
              refine lv_if_eq (tgt := 93) hx hb d_Tokens_scanWord_86 rfl (fun ht9 => ?_) (fun hf10 => ?_)
              · refine lv_aload_n hx hb d_Tokens_scanWord_93 rfl (lv_at hl 1 rfl) ?_
                refine lv_iload hx hb d_Tokens_scanWord_94 (lv_at hl 0 rfl) ?_
                refine lv_iload_n hx hb d_Tokens_scanWord_96 rfl (lv_at hl 2 rfl) ?_
                refine lv_aload_n hx hb d_Tokens_scanWord_97 rfl (lv_at hl 1 rfl) ?_
                refine Wd.get hx hb hts hown hK hW 0 0 in_Tokens w_fl_Tokens_9 (by decide) d_Tokens_scanWord_98 rfl rfl rfl ?_
                refine lv_iload_n hx hb d_Tokens_scanWord_101 rfl (lv_at hl 2 rfl) ?_
                refine Wd.cald hx hb hK hW 1 d_Tokens_scanWord_102 rfl (vp_in_nI (by omega) (by omega)) ?_
                refine lv_bipush (v := 97) hx hb d_Tokens_scanWord_103 (by decide) ?_
                refine lv_isub hx hb d_Tokens_scanWord_105 ?_
                refine Ct.callV (As := [.int 7, .int (nI b), .int ((f ((nI b).toNatClampNeg)) - 97)]) (rest := []) hx hb hml hown hts hK hA hl.1 hW (c_Tokens_add l G h0 h0t h0k h0b h0v (nI cn) kd bg vl (7 : Int32) (nI b) ((f ((nI b).toNatClampNeg)) - 97) (nI_ge0 cn (by omega)) (nI_nge hc)) (cwV 3 hts (good_V w_ml_Tokens_44 w_im_Tokens_add w_se_Tokens_add w_ini_Tokens w_code_Tokens_add) rfl rfl rfl yd_Tokens_add ⟨by decide, by decide⟩) [0, 2, 3, 4] (by decide) rfl (ci := 11) (r := vr_Tokens) rfl rfl rfl rfl rfl (Nat.le_of_ble_eq_true rfl) d_Tokens_scanWord_106 ⟨by decide, by decide⟩ (fun v w' hp => by obtain ⟨-, rfl⟩ := hp; exact Nat.le_of_ble_eq_true rfl) (fun v w' H locs hp hW => ?_)
                obtain ⟨rfl, rfl⟩ := hp
                have hW : Wd G A s.heap [(h0, .inr (11, [.ref h0t, .ref h0k, .ref h0b, .ref h0v, .int ((nI cn) + 1)])), (h0t, .inl (G.2 2, 120, .inl f)), (h0k, .inl (G.2 0, 121, .inl (upd kd (nI cn).toNatClampNeg (7 : Int32)))), (h0b, .inl (G.2 0, 121, .inl (upd bg (nI cn).toNatClampNeg (nI b)))), (h0v, .inl (G.2 0, 121, .inl (upd vl (nI cn).toNatClampNeg ((f ((nI b).toNatClampNeg)) - 97))))] H locs := hW
                refine W.eq (g2 := F0 m 109 ls []) rfl ?_
                refine lv_iload_n hx hb d_Tokens_scanWord_109 rfl (lv_at hl 4 rfl) ?_
                exact CtX.iret hx hb hr hnl hW (by decide) (by decide) d_Tokens_scanWord_110 (by
          have eE : ee = wEnd f L (b + 1) := by rw [← hg, heL, Nat.sub_self]; rfl
          have eK : wdK f b ee = 7 := by unfold wdK; rw [if_neg ht3, if_pos ht5, if_pos ht7, if_pos ht9]
          rw [← eE, eK]
          rw [nI_clamp (n := b) (by omega)]
          exact ⟨rfl, rfl⟩)
              · refine lv_bipush (v := 6) hx hb d_Tokens_scanWord_89 (by decide) ?_
                refine lv_istore (lv' := [(4, .int 6), (0, .ref h0), (1, .int (nI b)), (2, .int (nI L)), (3, .int (nI ee))]) hx hb d_Tokens_scanWord_91 hl (by decide) rfl (fun ls hl => ?_)
                refine lv_aload_n hx hb d_Tokens_scanWord_93 rfl (lv_at hl 1 rfl) ?_
                refine lv_iload hx hb d_Tokens_scanWord_94 (lv_at hl 0 rfl) ?_
                refine lv_iload_n hx hb d_Tokens_scanWord_96 rfl (lv_at hl 2 rfl) ?_
                refine lv_aload_n hx hb d_Tokens_scanWord_97 rfl (lv_at hl 1 rfl) ?_
                refine Wd.get hx hb hts hown hK hW 0 0 in_Tokens w_fl_Tokens_9 (by decide) d_Tokens_scanWord_98 rfl rfl rfl ?_
                refine lv_iload_n hx hb d_Tokens_scanWord_101 rfl (lv_at hl 2 rfl) ?_
                refine Wd.cald hx hb hK hW 1 d_Tokens_scanWord_102 rfl (vp_in_nI (by omega) (by omega)) ?_
                refine lv_bipush (v := 97) hx hb d_Tokens_scanWord_103 (by decide) ?_
                refine lv_isub hx hb d_Tokens_scanWord_105 ?_
                refine Ct.callV (As := [.int 6, .int (nI b), .int ((f ((nI b).toNatClampNeg)) - 97)]) (rest := []) hx hb hml hown hts hK hA hl.1 hW (c_Tokens_add l G h0 h0t h0k h0b h0v (nI cn) kd bg vl (6 : Int32) (nI b) ((f ((nI b).toNatClampNeg)) - 97) (nI_ge0 cn (by omega)) (nI_nge hc)) (cwV 3 hts (good_V w_ml_Tokens_44 w_im_Tokens_add w_se_Tokens_add w_ini_Tokens w_code_Tokens_add) rfl rfl rfl yd_Tokens_add ⟨by decide, by decide⟩) [0, 2, 3, 4] (by decide) rfl (ci := 11) (r := vr_Tokens) rfl rfl rfl rfl rfl (Nat.le_of_ble_eq_true rfl) d_Tokens_scanWord_106 ⟨by decide, by decide⟩ (fun v w' hp => by obtain ⟨-, rfl⟩ := hp; exact Nat.le_of_ble_eq_true rfl) (fun v w' H locs hp hW => ?_)
                obtain ⟨rfl, rfl⟩ := hp
                have hW : Wd G A s.heap [(h0, .inr (11, [.ref h0t, .ref h0k, .ref h0b, .ref h0v, .int ((nI cn) + 1)])), (h0t, .inl (G.2 2, 120, .inl f)), (h0k, .inl (G.2 0, 121, .inl (upd kd (nI cn).toNatClampNeg (6 : Int32)))), (h0b, .inl (G.2 0, 121, .inl (upd bg (nI cn).toNatClampNeg (nI b)))), (h0v, .inl (G.2 0, 121, .inl (upd vl (nI cn).toNatClampNeg ((f ((nI b).toNatClampNeg)) - 97))))] H locs := hW
                refine W.eq (g2 := F0 m 109 ls []) rfl ?_
                refine lv_iload_n hx hb d_Tokens_scanWord_109 rfl (lv_at hl 4 rfl) ?_
                exact CtX.iret hx hb hr hnl hW (by decide) (by decide) d_Tokens_scanWord_110 (by
          have eE : ee = wEnd f L (b + 1) := by rw [← hg, heL, Nat.sub_self]; rfl
          have eK : wdK f b ee = 6 := by unfold wdK; rw [if_neg ht3, if_pos ht5, if_pos ht7, if_neg hf10]
          rw [← eE, eK]
          rw [nI_clamp (n := b) (by omega)]
          exact ⟨rfl, rfl⟩)
            · refine lv_iconst (v := 5) hx hb d_Tokens_scanWord_72 (by decide) ?_
              refine lv_istore (lv' := [(4, .int 5), (0, .ref h0), (1, .int (nI b)), (2, .int (nI L)), (3, .int (nI ee))]) hx hb d_Tokens_scanWord_73 hl (by decide) rfl (fun ls hl => ?_)
              refine lv_goto (tgt := 93) hx hb d_Tokens_scanWord_75 rfl ?_
              refine lv_aload_n hx hb d_Tokens_scanWord_93 rfl (lv_at hl 1 rfl) ?_
              refine lv_iload hx hb d_Tokens_scanWord_94 (lv_at hl 0 rfl) ?_
              refine lv_iload_n hx hb d_Tokens_scanWord_96 rfl (lv_at hl 2 rfl) ?_
              refine lv_aload_n hx hb d_Tokens_scanWord_97 rfl (lv_at hl 1 rfl) ?_
              refine Wd.get hx hb hts hown hK hW 0 0 in_Tokens w_fl_Tokens_9 (by decide) d_Tokens_scanWord_98 rfl rfl rfl ?_
              refine lv_iload_n hx hb d_Tokens_scanWord_101 rfl (lv_at hl 2 rfl) ?_
              refine Wd.cald hx hb hK hW 1 d_Tokens_scanWord_102 rfl (vp_in_nI (by omega) (by omega)) ?_
              refine lv_bipush (v := 97) hx hb d_Tokens_scanWord_103 (by decide) ?_
              refine lv_isub hx hb d_Tokens_scanWord_105 ?_
              refine Ct.callV (As := [.int 5, .int (nI b), .int ((f ((nI b).toNatClampNeg)) - 97)]) (rest := []) hx hb hml hown hts hK hA hl.1 hW (c_Tokens_add l G h0 h0t h0k h0b h0v (nI cn) kd bg vl (5 : Int32) (nI b) ((f ((nI b).toNatClampNeg)) - 97) (nI_ge0 cn (by omega)) (nI_nge hc)) (cwV 3 hts (good_V w_ml_Tokens_44 w_im_Tokens_add w_se_Tokens_add w_ini_Tokens w_code_Tokens_add) rfl rfl rfl yd_Tokens_add ⟨by decide, by decide⟩) [0, 2, 3, 4] (by decide) rfl (ci := 11) (r := vr_Tokens) rfl rfl rfl rfl rfl (Nat.le_of_ble_eq_true rfl) d_Tokens_scanWord_106 ⟨by decide, by decide⟩ (fun v w' hp => by obtain ⟨-, rfl⟩ := hp; exact Nat.le_of_ble_eq_true rfl) (fun v w' H locs hp hW => ?_)
              obtain ⟨rfl, rfl⟩ := hp
              have hW : Wd G A s.heap [(h0, .inr (11, [.ref h0t, .ref h0k, .ref h0b, .ref h0v, .int ((nI cn) + 1)])), (h0t, .inl (G.2 2, 120, .inl f)), (h0k, .inl (G.2 0, 121, .inl (upd kd (nI cn).toNatClampNeg (5 : Int32)))), (h0b, .inl (G.2 0, 121, .inl (upd bg (nI cn).toNatClampNeg (nI b)))), (h0v, .inl (G.2 0, 121, .inl (upd vl (nI cn).toNatClampNeg ((f ((nI b).toNatClampNeg)) - 97))))] H locs := hW
              refine W.eq (g2 := F0 m 109 ls []) rfl ?_
              refine lv_iload_n hx hb d_Tokens_scanWord_109 rfl (lv_at hl 4 rfl) ?_
              exact CtX.iret hx hb hr hnl hW (by decide) (by decide) d_Tokens_scanWord_110 (by
          have eE : ee = wEnd f L (b + 1) := by rw [← hg, heL, Nat.sub_self]; rfl
          have eK : wdK f b ee = 5 := by unfold wdK; rw [if_neg ht3, if_pos ht5, if_neg hf8]
          rw [← eE, eK]
          rw [nI_clamp (n := b) (by omega)]
          exact ⟨rfl, rfl⟩)
          · refine lv_iconst (v := 4) hx hb d_Tokens_scanWord_55 (by decide) ?_
            refine lv_istore (lv' := [(4, .int 4), (0, .ref h0), (1, .int (nI b)), (2, .int (nI L)), (3, .int (nI ee))]) hx hb d_Tokens_scanWord_56 hl (by decide) rfl (fun ls hl => ?_)
            refine lv_goto (tgt := 93) hx hb d_Tokens_scanWord_58 rfl ?_
            refine lv_aload_n hx hb d_Tokens_scanWord_93 rfl (lv_at hl 1 rfl) ?_
            refine lv_iload hx hb d_Tokens_scanWord_94 (lv_at hl 0 rfl) ?_
            refine lv_iload_n hx hb d_Tokens_scanWord_96 rfl (lv_at hl 2 rfl) ?_
            refine lv_aload_n hx hb d_Tokens_scanWord_97 rfl (lv_at hl 1 rfl) ?_
            refine Wd.get hx hb hts hown hK hW 0 0 in_Tokens w_fl_Tokens_9 (by decide) d_Tokens_scanWord_98 rfl rfl rfl ?_
            refine lv_iload_n hx hb d_Tokens_scanWord_101 rfl (lv_at hl 2 rfl) ?_
            refine Wd.cald hx hb hK hW 1 d_Tokens_scanWord_102 rfl (vp_in_nI (by omega) (by omega)) ?_
            refine lv_bipush (v := 97) hx hb d_Tokens_scanWord_103 (by decide) ?_
            refine lv_isub hx hb d_Tokens_scanWord_105 ?_
            refine Ct.callV (As := [.int 4, .int (nI b), .int ((f ((nI b).toNatClampNeg)) - 97)]) (rest := []) hx hb hml hown hts hK hA hl.1 hW (c_Tokens_add l G h0 h0t h0k h0b h0v (nI cn) kd bg vl (4 : Int32) (nI b) ((f ((nI b).toNatClampNeg)) - 97) (nI_ge0 cn (by omega)) (nI_nge hc)) (cwV 3 hts (good_V w_ml_Tokens_44 w_im_Tokens_add w_se_Tokens_add w_ini_Tokens w_code_Tokens_add) rfl rfl rfl yd_Tokens_add ⟨by decide, by decide⟩) [0, 2, 3, 4] (by decide) rfl (ci := 11) (r := vr_Tokens) rfl rfl rfl rfl rfl (Nat.le_of_ble_eq_true rfl) d_Tokens_scanWord_106 ⟨by decide, by decide⟩ (fun v w' hp => by obtain ⟨-, rfl⟩ := hp; exact Nat.le_of_ble_eq_true rfl) (fun v w' H locs hp hW => ?_)
            obtain ⟨rfl, rfl⟩ := hp
            have hW : Wd G A s.heap [(h0, .inr (11, [.ref h0t, .ref h0k, .ref h0b, .ref h0v, .int ((nI cn) + 1)])), (h0t, .inl (G.2 2, 120, .inl f)), (h0k, .inl (G.2 0, 121, .inl (upd kd (nI cn).toNatClampNeg (4 : Int32)))), (h0b, .inl (G.2 0, 121, .inl (upd bg (nI cn).toNatClampNeg (nI b)))), (h0v, .inl (G.2 0, 121, .inl (upd vl (nI cn).toNatClampNeg ((f ((nI b).toNatClampNeg)) - 97))))] H locs := hW
            refine W.eq (g2 := F0 m 109 ls []) rfl ?_
            refine lv_iload_n hx hb d_Tokens_scanWord_109 rfl (lv_at hl 4 rfl) ?_
            exact CtX.iret hx hb hr hnl hW (by decide) (by decide) d_Tokens_scanWord_110 (by
          have eE : ee = wEnd f L (b + 1) := by rw [← hg, heL, Nat.sub_self]; rfl
          have eK : wdK f b ee = 4 := by unfold wdK; rw [if_neg ht3, if_neg hf6]
          rw [← eE, eK]
          rw [nI_clamp (n := b) (by omega)]
          exact ⟨rfl, rfl⟩)
        · refine lv_iconst (v := 1) hx hb d_Tokens_scanWord_38 (by decide) ?_
          refine lv_istore (lv' := [(4, .int 1), (0, .ref h0), (1, .int (nI b)), (2, .int (nI L)), (3, .int (nI ee))]) hx hb d_Tokens_scanWord_39 hl (by decide) rfl (fun ls hl => ?_)
          refine lv_goto (tgt := 93) hx hb d_Tokens_scanWord_41 rfl ?_
          refine lv_aload_n hx hb d_Tokens_scanWord_93 rfl (lv_at hl 1 rfl) ?_
          refine lv_iload hx hb d_Tokens_scanWord_94 (lv_at hl 0 rfl) ?_
          refine lv_iload_n hx hb d_Tokens_scanWord_96 rfl (lv_at hl 2 rfl) ?_
          refine lv_aload_n hx hb d_Tokens_scanWord_97 rfl (lv_at hl 1 rfl) ?_
          refine Wd.get hx hb hts hown hK hW 0 0 in_Tokens w_fl_Tokens_9 (by decide) d_Tokens_scanWord_98 rfl rfl rfl ?_
          refine lv_iload_n hx hb d_Tokens_scanWord_101 rfl (lv_at hl 2 rfl) ?_
          refine Wd.cald hx hb hK hW 1 d_Tokens_scanWord_102 rfl (vp_in_nI (by omega) (by omega)) ?_
          refine lv_bipush (v := 97) hx hb d_Tokens_scanWord_103 (by decide) ?_
          refine lv_isub hx hb d_Tokens_scanWord_105 ?_
          refine Ct.callV (As := [.int 1, .int (nI b), .int ((f ((nI b).toNatClampNeg)) - 97)]) (rest := []) hx hb hml hown hts hK hA hl.1 hW (c_Tokens_add l G h0 h0t h0k h0b h0v (nI cn) kd bg vl (1 : Int32) (nI b) ((f ((nI b).toNatClampNeg)) - 97) (nI_ge0 cn (by omega)) (nI_nge hc)) (cwV 3 hts (good_V w_ml_Tokens_44 w_im_Tokens_add w_se_Tokens_add w_ini_Tokens w_code_Tokens_add) rfl rfl rfl yd_Tokens_add ⟨by decide, by decide⟩) [0, 2, 3, 4] (by decide) rfl (ci := 11) (r := vr_Tokens) rfl rfl rfl rfl rfl (Nat.le_of_ble_eq_true rfl) d_Tokens_scanWord_106 ⟨by decide, by decide⟩ (fun v w' hp => by obtain ⟨-, rfl⟩ := hp; exact Nat.le_of_ble_eq_true rfl) (fun v w' H locs hp hW => ?_)
          obtain ⟨rfl, rfl⟩ := hp
          have hW : Wd G A s.heap [(h0, .inr (11, [.ref h0t, .ref h0k, .ref h0b, .ref h0v, .int ((nI cn) + 1)])), (h0t, .inl (G.2 2, 120, .inl f)), (h0k, .inl (G.2 0, 121, .inl (upd kd (nI cn).toNatClampNeg (1 : Int32)))), (h0b, .inl (G.2 0, 121, .inl (upd bg (nI cn).toNatClampNeg (nI b)))), (h0v, .inl (G.2 0, 121, .inl (upd vl (nI cn).toNatClampNeg ((f ((nI b).toNatClampNeg)) - 97))))] H locs := hW
          refine W.eq (g2 := F0 m 109 ls []) rfl ?_
          refine lv_iload_n hx hb d_Tokens_scanWord_109 rfl (lv_at hl 4 rfl) ?_
          exact CtX.iret hx hb hr hnl hW (by decide) (by decide) d_Tokens_scanWord_110 (by
          have eE : ee = wEnd f L (b + 1) := by rw [← hg, heL, Nat.sub_self]; rfl
          have eK : wdK f b ee = 1 := by unfold wdK; rw [if_pos hf4]
          rw [← eE, eK]
          rw [nI_clamp (n := b) (by omega)]
          exact ⟨rfl, rfl⟩)
      · have hlt : ee < L := by apply Nat.lt_of_not_le; intro q; exact hf2 (nI_le q (by omega))
        refine lv_aload_n hx hb d_Tokens_scanWord_9 rfl (lv_at hl 0 rfl) ?_
        refine Wd.get hx hb hts hown hK hW 0 0 in_Tokens w_fl_Tokens_9 (by decide) d_Tokens_scanWord_10 rfl rfl rfl ?_
        refine lv_iload_n hx hb d_Tokens_scanWord_13 rfl (lv_at hl 3 rfl) ?_
        refine Wd.cald hx hb hK hW 1 d_Tokens_scanWord_14 rfl (vp_in_nI (by omega) (by omega)) ?_
        refine Ct.callS (As := [.int (f ((nI ee).toNatClampNeg))]) (rest := []) hx hb hml hown hts hK hA hl.1 hW (c_Tokens_isLetter l G (f ((nI ee).toNatClampNeg)) ) (va_cwS 1 hts (good_S w_ml_Tokens_48 w_st_Tokens_isLetter w_ini_Tokens w_code_Tokens_isLetter) rfl rfl rfl yd_Tokens_isLetter.2 ⟨by decide, by decide⟩) [] (by decide) rfl rfl rfl (Nat.le_of_ble_eq_true rfl) d_Tokens_scanWord_15 ⟨by decide, by decide⟩ (fun v w' hp => by obtain ⟨-, rfl⟩ := hp; exact Nat.le_of_ble_eq_true rfl) (fun v w' H locs hp hW => ?_)
        obtain ⟨rfl, rfl⟩ := hp
        have hW : Wd G A s.heap [(h0, .inr (11, [.ref h0t, .ref h0k, .ref h0b, .ref h0v, .int (nI cn)])), (h0t, .inl (G.2 2, 120, .inl f)), (h0k, .inl (G.2 0, 121, .inl kd)), (h0b, .inl (G.2 0, 121, .inl bg)), (h0v, .inl (G.2 0, 121, .inl vl))] H locs := hW
        refine W.eq (g2 := F0 m 18 ls [.int (o_Tokens_isLetter_r (f ((nI ee).toNatClampNeg)))]) rfl ?_
        refine lv_if_eq (tgt := 27) hx hb d_Tokens_scanWord_18 rfl (fun ht11 => ?_) (fun hf12 => ?_)
        · refine lv_bipush (v := 7) hx hb d_Tokens_scanWord_27 (by decide) ?_
          refine lv_istore (lv' := [(4, .int 7), (0, .ref h0), (1, .int (nI b)), (2, .int (nI L)), (3, .int (nI ee))]) hx hb d_Tokens_scanWord_29 hl (by decide) rfl (fun ls hl => ?_)
          refine lv_iload_n hx hb d_Tokens_scanWord_31 rfl (lv_at hl 4 rfl) ?_
          refine lv_iload_n hx hb d_Tokens_scanWord_32 rfl (lv_at hl 2 rfl) ?_
          refine lv_iconst (v := 1) hx hb d_Tokens_scanWord_33 (by decide) ?_
          refine lv_iadd hx hb d_Tokens_scanWord_34 ?_
          refine lv_icmp_ne (tgt := 44) hx hb d_Tokens_scanWord_35 rfl (fun ht13 => ?_) (fun hf14 => ?_)
          · refine lv_aload_n hx hb d_Tokens_scanWord_44 rfl (lv_at hl 1 rfl) ?_
            refine va_ldcS (own := "ThreeClerks$Tokens") (index := 69) (tx := sTx 0) (q := V.1 0) hx hb hown (hE.2.1 0 (by decide)) d_Tokens_scanWord_45 ?_
            refine lv_iload_n hx hb d_Tokens_scanWord_47 rfl (lv_at hl 2 rfl) ?_
            refine lv_iload_n hx hb d_Tokens_scanWord_48 rfl (lv_at hl 4 rfl) ?_
            refine CtX.callV (C := "ThreeClerks$Tokens") (As := [.ref (V.1 0), .int (nI b), .int (nI ee)]) (rest := []) hx hb hml hown hts hK hE hA hl.1 hW (cx_Tokens_isWord0 l G V hfl h0 h0t h0k h0b h0v (nI cn) b ee f (by omega) (by omega)) w_ml_Tokens_71 w_im_Tokens_isWord w_se_Tokens_isWord w_ini_Tokens w_code_Tokens_isWord yd_Tokens_isWord.2 [0, 1] (by decide) rfl (ci := 11) (r := vr_Tokens) rfl rfl rfl rfl rfl (Nat.le_of_ble_eq_true rfl) d_Tokens_scanWord_49 (by decide) (by decide) rfl rfl ⟨by decide, by decide⟩ (fun o w' hp => by rw [hp.2]; exact Nat.le_of_ble_eq_true rfl) (fun v w' H locs hp hW => ?_) (fun X a cell w' H locs hp => absurd hp.1 (fun h => by cases h))
            obtain ⟨hv, rfl⟩ := hp
            cases hv
            have hW : Wd G A s.heap [(h0, .inr (11, [.ref h0t, .ref h0k, .ref h0b, .ref h0v, .int (nI cn)])), (h0t, .inl (G.2 2, 120, .inl f)), (h0k, .inl (G.2 0, 121, .inl kd)), (h0b, .inl (G.2 0, 121, .inl bg)), (h0v, .inl (G.2 0, 121, .inl vl))] H locs := hW
            refine W.eq (g2 := F0 m 52 ls [.int (o_Tokens_isWord0_r b ee f)]) rfl ?_
            refine lv_if_eq (tgt := 61) hx hb d_Tokens_scanWord_52 rfl (fun ht15 => ?_) (fun hf16 => ?_)
            · refine lv_aload_n hx hb d_Tokens_scanWord_61 rfl (lv_at hl 1 rfl) ?_
              refine va_ldcS (own := "ThreeClerks$Tokens") (index := 75) (tx := sTx 1) (q := V.1 1) hx hb hown (hE.2.1 1 (by decide)) d_Tokens_scanWord_62 ?_
              refine lv_iload_n hx hb d_Tokens_scanWord_64 rfl (lv_at hl 2 rfl) ?_
              refine lv_iload_n hx hb d_Tokens_scanWord_65 rfl (lv_at hl 4 rfl) ?_
              refine CtX.callV (C := "ThreeClerks$Tokens") (As := [.ref (V.1 1), .int (nI b), .int (nI ee)]) (rest := []) hx hb hml hown hts hK hE hA hl.1 hW (cx_Tokens_isWord1 l G V hfl h0 h0t h0k h0b h0v (nI cn) b ee f (by omega) (by omega)) w_ml_Tokens_71 w_im_Tokens_isWord w_se_Tokens_isWord w_ini_Tokens w_code_Tokens_isWord yd_Tokens_isWord.2 [0, 1] (by decide) rfl (ci := 11) (r := vr_Tokens) rfl rfl rfl rfl rfl (Nat.le_of_ble_eq_true rfl) d_Tokens_scanWord_66 (by decide) (by decide) rfl rfl ⟨by decide, by decide⟩ (fun o w' hp => by rw [hp.2]; exact Nat.le_of_ble_eq_true rfl) (fun v w' H locs hp hW => ?_) (fun X a cell w' H locs hp => absurd hp.1 (fun h => by cases h))
              obtain ⟨hv, rfl⟩ := hp
              cases hv
              have hW : Wd G A s.heap [(h0, .inr (11, [.ref h0t, .ref h0k, .ref h0b, .ref h0v, .int (nI cn)])), (h0t, .inl (G.2 2, 120, .inl f)), (h0k, .inl (G.2 0, 121, .inl kd)), (h0b, .inl (G.2 0, 121, .inl bg)), (h0v, .inl (G.2 0, 121, .inl vl))] H locs := hW
              refine W.eq (g2 := F0 m 69 ls [.int (o_Tokens_isWord1_r b ee f)]) rfl ?_
              refine lv_if_eq (tgt := 78) hx hb d_Tokens_scanWord_69 rfl (fun ht17 => ?_) (fun hf18 => ?_)
              · refine lv_aload_n hx hb d_Tokens_scanWord_78 rfl (lv_at hl 1 rfl) ?_
                refine va_ldcS (own := "ThreeClerks$Tokens") (index := 77) (tx := sTx 2) (q := V.1 2) hx hb hown (hE.2.1 2 (by decide)) d_Tokens_scanWord_79 ?_
                refine lv_iload_n hx hb d_Tokens_scanWord_81 rfl (lv_at hl 2 rfl) ?_
                refine lv_iload_n hx hb d_Tokens_scanWord_82 rfl (lv_at hl 4 rfl) ?_
                refine CtX.callV (C := "ThreeClerks$Tokens") (As := [.ref (V.1 2), .int (nI b), .int (nI ee)]) (rest := []) hx hb hml hown hts hK hE hA hl.1 hW (cx_Tokens_isWord2 l G V hfl h0 h0t h0k h0b h0v (nI cn) b ee f (by omega) (by omega)) w_ml_Tokens_71 w_im_Tokens_isWord w_se_Tokens_isWord w_ini_Tokens w_code_Tokens_isWord yd_Tokens_isWord.2 [0, 1] (by decide) rfl (ci := 11) (r := vr_Tokens) rfl rfl rfl rfl rfl (Nat.le_of_ble_eq_true rfl) d_Tokens_scanWord_83 (by decide) (by decide) rfl rfl ⟨by decide, by decide⟩ (fun o w' hp => by rw [hp.2]; exact Nat.le_of_ble_eq_true rfl) (fun v w' H locs hp hW => ?_) (fun X a cell w' H locs hp => absurd hp.1 (fun h => by cases h))
                obtain ⟨hv, rfl⟩ := hp
                cases hv
                have hW : Wd G A s.heap [(h0, .inr (11, [.ref h0t, .ref h0k, .ref h0b, .ref h0v, .int (nI cn)])), (h0t, .inl (G.2 2, 120, .inl f)), (h0k, .inl (G.2 0, 121, .inl kd)), (h0b, .inl (G.2 0, 121, .inl bg)), (h0v, .inl (G.2 0, 121, .inl vl))] H locs := hW
                refine W.eq (g2 := F0 m 86 ls [.int (o_Tokens_isWord2_r b ee f)]) rfl ?_
                refine lv_if_eq (tgt := 93) hx hb d_Tokens_scanWord_86 rfl (fun ht19 => ?_) (fun hf20 => ?_)
                · refine lv_aload_n hx hb d_Tokens_scanWord_93 rfl (lv_at hl 1 rfl) ?_
                  refine lv_iload hx hb d_Tokens_scanWord_94 (lv_at hl 0 rfl) ?_
                  refine lv_iload_n hx hb d_Tokens_scanWord_96 rfl (lv_at hl 2 rfl) ?_
                  refine lv_aload_n hx hb d_Tokens_scanWord_97 rfl (lv_at hl 1 rfl) ?_
                  refine Wd.get hx hb hts hown hK hW 0 0 in_Tokens w_fl_Tokens_9 (by decide) d_Tokens_scanWord_98 rfl rfl rfl ?_
                  refine lv_iload_n hx hb d_Tokens_scanWord_101 rfl (lv_at hl 2 rfl) ?_
                  refine Wd.cald hx hb hK hW 1 d_Tokens_scanWord_102 rfl (vp_in_nI (by omega) (by omega)) ?_
                  refine lv_bipush (v := 97) hx hb d_Tokens_scanWord_103 (by decide) ?_
                  refine lv_isub hx hb d_Tokens_scanWord_105 ?_
                  refine Ct.callV (As := [.int 7, .int (nI b), .int ((f ((nI b).toNatClampNeg)) - 97)]) (rest := []) hx hb hml hown hts hK hA hl.1 hW (c_Tokens_add l G h0 h0t h0k h0b h0v (nI cn) kd bg vl (7 : Int32) (nI b) ((f ((nI b).toNatClampNeg)) - 97) (nI_ge0 cn (by omega)) (nI_nge hc)) (cwV 3 hts (good_V w_ml_Tokens_44 w_im_Tokens_add w_se_Tokens_add w_ini_Tokens w_code_Tokens_add) rfl rfl rfl yd_Tokens_add ⟨by decide, by decide⟩) [0, 2, 3, 4] (by decide) rfl (ci := 11) (r := vr_Tokens) rfl rfl rfl rfl rfl (Nat.le_of_ble_eq_true rfl) d_Tokens_scanWord_106 ⟨by decide, by decide⟩ (fun v w' hp => by obtain ⟨-, rfl⟩ := hp; exact Nat.le_of_ble_eq_true rfl) (fun v w' H locs hp hW => ?_)
                  obtain ⟨rfl, rfl⟩ := hp
                  have hW : Wd G A s.heap [(h0, .inr (11, [.ref h0t, .ref h0k, .ref h0b, .ref h0v, .int ((nI cn) + 1)])), (h0t, .inl (G.2 2, 120, .inl f)), (h0k, .inl (G.2 0, 121, .inl (upd kd (nI cn).toNatClampNeg (7 : Int32)))), (h0b, .inl (G.2 0, 121, .inl (upd bg (nI cn).toNatClampNeg (nI b)))), (h0v, .inl (G.2 0, 121, .inl (upd vl (nI cn).toNatClampNeg ((f ((nI b).toNatClampNeg)) - 97))))] H locs := hW
                  refine W.eq (g2 := F0 m 109 ls []) rfl ?_
                  refine lv_iload_n hx hb d_Tokens_scanWord_109 rfl (lv_at hl 4 rfl) ?_
                  exact CtX.iret hx hb hr hnl hW (by decide) (by decide) d_Tokens_scanWord_110 (by
          have eE : ee = wEnd f L (b + 1) := by rw [← hg, wE_s (by omega), if_pos (show o_Tokens_isLetter_r (f ee) = 0 by have q := ht11; rw [nI_clamp (by omega)] at q; exact q)]
          have eK : wdK f b ee = 7 := by unfold wdK; rw [if_neg ht13, if_pos ht15, if_pos ht17, if_pos ht19]
          rw [← eE, eK]
          rw [nI_clamp (n := b) (by omega)]
          exact ⟨rfl, rfl⟩)
                · refine lv_bipush (v := 6) hx hb d_Tokens_scanWord_89 (by decide) ?_
                  refine lv_istore (lv' := [(4, .int 6), (0, .ref h0), (1, .int (nI b)), (2, .int (nI L)), (3, .int (nI ee))]) hx hb d_Tokens_scanWord_91 hl (by decide) rfl (fun ls hl => ?_)
                  refine lv_aload_n hx hb d_Tokens_scanWord_93 rfl (lv_at hl 1 rfl) ?_
                  refine lv_iload hx hb d_Tokens_scanWord_94 (lv_at hl 0 rfl) ?_
                  refine lv_iload_n hx hb d_Tokens_scanWord_96 rfl (lv_at hl 2 rfl) ?_
                  refine lv_aload_n hx hb d_Tokens_scanWord_97 rfl (lv_at hl 1 rfl) ?_
                  refine Wd.get hx hb hts hown hK hW 0 0 in_Tokens w_fl_Tokens_9 (by decide) d_Tokens_scanWord_98 rfl rfl rfl ?_
                  refine lv_iload_n hx hb d_Tokens_scanWord_101 rfl (lv_at hl 2 rfl) ?_
                  refine Wd.cald hx hb hK hW 1 d_Tokens_scanWord_102 rfl (vp_in_nI (by omega) (by omega)) ?_
                  refine lv_bipush (v := 97) hx hb d_Tokens_scanWord_103 (by decide) ?_
                  refine lv_isub hx hb d_Tokens_scanWord_105 ?_
                  refine Ct.callV (As := [.int 6, .int (nI b), .int ((f ((nI b).toNatClampNeg)) - 97)]) (rest := []) hx hb hml hown hts hK hA hl.1 hW (c_Tokens_add l G h0 h0t h0k h0b h0v (nI cn) kd bg vl (6 : Int32) (nI b) ((f ((nI b).toNatClampNeg)) - 97) (nI_ge0 cn (by omega)) (nI_nge hc)) (cwV 3 hts (good_V w_ml_Tokens_44 w_im_Tokens_add w_se_Tokens_add w_ini_Tokens w_code_Tokens_add) rfl rfl rfl yd_Tokens_add ⟨by decide, by decide⟩) [0, 2, 3, 4] (by decide) rfl (ci := 11) (r := vr_Tokens) rfl rfl rfl rfl rfl (Nat.le_of_ble_eq_true rfl) d_Tokens_scanWord_106 ⟨by decide, by decide⟩ (fun v w' hp => by obtain ⟨-, rfl⟩ := hp; exact Nat.le_of_ble_eq_true rfl) (fun v w' H locs hp hW => ?_)
                  obtain ⟨rfl, rfl⟩ := hp
                  have hW : Wd G A s.heap [(h0, .inr (11, [.ref h0t, .ref h0k, .ref h0b, .ref h0v, .int ((nI cn) + 1)])), (h0t, .inl (G.2 2, 120, .inl f)), (h0k, .inl (G.2 0, 121, .inl (upd kd (nI cn).toNatClampNeg (6 : Int32)))), (h0b, .inl (G.2 0, 121, .inl (upd bg (nI cn).toNatClampNeg (nI b)))), (h0v, .inl (G.2 0, 121, .inl (upd vl (nI cn).toNatClampNeg ((f ((nI b).toNatClampNeg)) - 97))))] H locs := hW
                  refine W.eq (g2 := F0 m 109 ls []) rfl ?_
                  refine lv_iload_n hx hb d_Tokens_scanWord_109 rfl (lv_at hl 4 rfl) ?_
                  exact CtX.iret hx hb hr hnl hW (by decide) (by decide) d_Tokens_scanWord_110 (by
          have eE : ee = wEnd f L (b + 1) := by rw [← hg, wE_s (by omega), if_pos (show o_Tokens_isLetter_r (f ee) = 0 by have q := ht11; rw [nI_clamp (by omega)] at q; exact q)]
          have eK : wdK f b ee = 6 := by unfold wdK; rw [if_neg ht13, if_pos ht15, if_pos ht17, if_neg hf20]
          rw [← eE, eK]
          rw [nI_clamp (n := b) (by omega)]
          exact ⟨rfl, rfl⟩)
              · refine lv_iconst (v := 5) hx hb d_Tokens_scanWord_72 (by decide) ?_
                refine lv_istore (lv' := [(4, .int 5), (0, .ref h0), (1, .int (nI b)), (2, .int (nI L)), (3, .int (nI ee))]) hx hb d_Tokens_scanWord_73 hl (by decide) rfl (fun ls hl => ?_)
                refine lv_goto (tgt := 93) hx hb d_Tokens_scanWord_75 rfl ?_
                refine lv_aload_n hx hb d_Tokens_scanWord_93 rfl (lv_at hl 1 rfl) ?_
                refine lv_iload hx hb d_Tokens_scanWord_94 (lv_at hl 0 rfl) ?_
                refine lv_iload_n hx hb d_Tokens_scanWord_96 rfl (lv_at hl 2 rfl) ?_
                refine lv_aload_n hx hb d_Tokens_scanWord_97 rfl (lv_at hl 1 rfl) ?_
                refine Wd.get hx hb hts hown hK hW 0 0 in_Tokens w_fl_Tokens_9 (by decide) d_Tokens_scanWord_98 rfl rfl rfl ?_
                refine lv_iload_n hx hb d_Tokens_scanWord_101 rfl (lv_at hl 2 rfl) ?_
                refine Wd.cald hx hb hK hW 1 d_Tokens_scanWord_102 rfl (vp_in_nI (by omega) (by omega)) ?_
                refine lv_bipush (v := 97) hx hb d_Tokens_scanWord_103 (by decide) ?_
                refine lv_isub hx hb d_Tokens_scanWord_105 ?_
                refine Ct.callV (As := [.int 5, .int (nI b), .int ((f ((nI b).toNatClampNeg)) - 97)]) (rest := []) hx hb hml hown hts hK hA hl.1 hW (c_Tokens_add l G h0 h0t h0k h0b h0v (nI cn) kd bg vl (5 : Int32) (nI b) ((f ((nI b).toNatClampNeg)) - 97) (nI_ge0 cn (by omega)) (nI_nge hc)) (cwV 3 hts (good_V w_ml_Tokens_44 w_im_Tokens_add w_se_Tokens_add w_ini_Tokens w_code_Tokens_add) rfl rfl rfl yd_Tokens_add ⟨by decide, by decide⟩) [0, 2, 3, 4] (by decide) rfl (ci := 11) (r := vr_Tokens) rfl rfl rfl rfl rfl (Nat.le_of_ble_eq_true rfl) d_Tokens_scanWord_106 ⟨by decide, by decide⟩ (fun v w' hp => by obtain ⟨-, rfl⟩ := hp; exact Nat.le_of_ble_eq_true rfl) (fun v w' H locs hp hW => ?_)
                obtain ⟨rfl, rfl⟩ := hp
                have hW : Wd G A s.heap [(h0, .inr (11, [.ref h0t, .ref h0k, .ref h0b, .ref h0v, .int ((nI cn) + 1)])), (h0t, .inl (G.2 2, 120, .inl f)), (h0k, .inl (G.2 0, 121, .inl (upd kd (nI cn).toNatClampNeg (5 : Int32)))), (h0b, .inl (G.2 0, 121, .inl (upd bg (nI cn).toNatClampNeg (nI b)))), (h0v, .inl (G.2 0, 121, .inl (upd vl (nI cn).toNatClampNeg ((f ((nI b).toNatClampNeg)) - 97))))] H locs := hW
                refine W.eq (g2 := F0 m 109 ls []) rfl ?_
                refine lv_iload_n hx hb d_Tokens_scanWord_109 rfl (lv_at hl 4 rfl) ?_
                exact CtX.iret hx hb hr hnl hW (by decide) (by decide) d_Tokens_scanWord_110 (by
          have eE : ee = wEnd f L (b + 1) := by rw [← hg, wE_s (by omega), if_pos (show o_Tokens_isLetter_r (f ee) = 0 by have q := ht11; rw [nI_clamp (by omega)] at q; exact q)]
          have eK : wdK f b ee = 5 := by unfold wdK; rw [if_neg ht13, if_pos ht15, if_neg hf18]
          rw [← eE, eK]
          rw [nI_clamp (n := b) (by omega)]
          exact ⟨rfl, rfl⟩)
            · refine lv_iconst (v := 4) hx hb d_Tokens_scanWord_55 (by decide) ?_
              refine lv_istore (lv' := [(4, .int 4), (0, .ref h0), (1, .int (nI b)), (2, .int (nI L)), (3, .int (nI ee))]) hx hb d_Tokens_scanWord_56 hl (by decide) rfl (fun ls hl => ?_)
              refine lv_goto (tgt := 93) hx hb d_Tokens_scanWord_58 rfl ?_
              refine lv_aload_n hx hb d_Tokens_scanWord_93 rfl (lv_at hl 1 rfl) ?_
              refine lv_iload hx hb d_Tokens_scanWord_94 (lv_at hl 0 rfl) ?_
              refine lv_iload_n hx hb d_Tokens_scanWord_96 rfl (lv_at hl 2 rfl) ?_
              refine lv_aload_n hx hb d_Tokens_scanWord_97 rfl (lv_at hl 1 rfl) ?_
              refine Wd.get hx hb hts hown hK hW 0 0 in_Tokens w_fl_Tokens_9 (by decide) d_Tokens_scanWord_98 rfl rfl rfl ?_
              refine lv_iload_n hx hb d_Tokens_scanWord_101 rfl (lv_at hl 2 rfl) ?_
              refine Wd.cald hx hb hK hW 1 d_Tokens_scanWord_102 rfl (vp_in_nI (by omega) (by omega)) ?_
              refine lv_bipush (v := 97) hx hb d_Tokens_scanWord_103 (by decide) ?_
              refine lv_isub hx hb d_Tokens_scanWord_105 ?_
              refine Ct.callV (As := [.int 4, .int (nI b), .int ((f ((nI b).toNatClampNeg)) - 97)]) (rest := []) hx hb hml hown hts hK hA hl.1 hW (c_Tokens_add l G h0 h0t h0k h0b h0v (nI cn) kd bg vl (4 : Int32) (nI b) ((f ((nI b).toNatClampNeg)) - 97) (nI_ge0 cn (by omega)) (nI_nge hc)) (cwV 3 hts (good_V w_ml_Tokens_44 w_im_Tokens_add w_se_Tokens_add w_ini_Tokens w_code_Tokens_add) rfl rfl rfl yd_Tokens_add ⟨by decide, by decide⟩) [0, 2, 3, 4] (by decide) rfl (ci := 11) (r := vr_Tokens) rfl rfl rfl rfl rfl (Nat.le_of_ble_eq_true rfl) d_Tokens_scanWord_106 ⟨by decide, by decide⟩ (fun v w' hp => by obtain ⟨-, rfl⟩ := hp; exact Nat.le_of_ble_eq_true rfl) (fun v w' H locs hp hW => ?_)
              obtain ⟨rfl, rfl⟩ := hp
              have hW : Wd G A s.heap [(h0, .inr (11, [.ref h0t, .ref h0k, .ref h0b, .ref h0v, .int ((nI cn) + 1)])), (h0t, .inl (G.2 2, 120, .inl f)), (h0k, .inl (G.2 0, 121, .inl (upd kd (nI cn).toNatClampNeg (4 : Int32)))), (h0b, .inl (G.2 0, 121, .inl (upd bg (nI cn).toNatClampNeg (nI b)))), (h0v, .inl (G.2 0, 121, .inl (upd vl (nI cn).toNatClampNeg ((f ((nI b).toNatClampNeg)) - 97))))] H locs := hW
              refine W.eq (g2 := F0 m 109 ls []) rfl ?_
              refine lv_iload_n hx hb d_Tokens_scanWord_109 rfl (lv_at hl 4 rfl) ?_
              exact CtX.iret hx hb hr hnl hW (by decide) (by decide) d_Tokens_scanWord_110 (by
          have eE : ee = wEnd f L (b + 1) := by rw [← hg, wE_s (by omega), if_pos (show o_Tokens_isLetter_r (f ee) = 0 by have q := ht11; rw [nI_clamp (by omega)] at q; exact q)]
          have eK : wdK f b ee = 4 := by unfold wdK; rw [if_neg ht13, if_neg hf16]
          rw [← eE, eK]
          rw [nI_clamp (n := b) (by omega)]
          exact ⟨rfl, rfl⟩)
          · refine lv_iconst (v := 1) hx hb d_Tokens_scanWord_38 (by decide) ?_
            refine lv_istore (lv' := [(4, .int 1), (0, .ref h0), (1, .int (nI b)), (2, .int (nI L)), (3, .int (nI ee))]) hx hb d_Tokens_scanWord_39 hl (by decide) rfl (fun ls hl => ?_)
            refine lv_goto (tgt := 93) hx hb d_Tokens_scanWord_41 rfl ?_
            refine lv_aload_n hx hb d_Tokens_scanWord_93 rfl (lv_at hl 1 rfl) ?_
            refine lv_iload hx hb d_Tokens_scanWord_94 (lv_at hl 0 rfl) ?_
            refine lv_iload_n hx hb d_Tokens_scanWord_96 rfl (lv_at hl 2 rfl) ?_
            refine lv_aload_n hx hb d_Tokens_scanWord_97 rfl (lv_at hl 1 rfl) ?_
            refine Wd.get hx hb hts hown hK hW 0 0 in_Tokens w_fl_Tokens_9 (by decide) d_Tokens_scanWord_98 rfl rfl rfl ?_
            refine lv_iload_n hx hb d_Tokens_scanWord_101 rfl (lv_at hl 2 rfl) ?_
            refine Wd.cald hx hb hK hW 1 d_Tokens_scanWord_102 rfl (vp_in_nI (by omega) (by omega)) ?_
            refine lv_bipush (v := 97) hx hb d_Tokens_scanWord_103 (by decide) ?_
            refine lv_isub hx hb d_Tokens_scanWord_105 ?_
            refine Ct.callV (As := [.int 1, .int (nI b), .int ((f ((nI b).toNatClampNeg)) - 97)]) (rest := []) hx hb hml hown hts hK hA hl.1 hW (c_Tokens_add l G h0 h0t h0k h0b h0v (nI cn) kd bg vl (1 : Int32) (nI b) ((f ((nI b).toNatClampNeg)) - 97) (nI_ge0 cn (by omega)) (nI_nge hc)) (cwV 3 hts (good_V w_ml_Tokens_44 w_im_Tokens_add w_se_Tokens_add w_ini_Tokens w_code_Tokens_add) rfl rfl rfl yd_Tokens_add ⟨by decide, by decide⟩) [0, 2, 3, 4] (by decide) rfl (ci := 11) (r := vr_Tokens) rfl rfl rfl rfl rfl (Nat.le_of_ble_eq_true rfl) d_Tokens_scanWord_106 ⟨by decide, by decide⟩ (fun v w' hp => by obtain ⟨-, rfl⟩ := hp; exact Nat.le_of_ble_eq_true rfl) (fun v w' H locs hp hW => ?_)
            obtain ⟨rfl, rfl⟩ := hp
            have hW : Wd G A s.heap [(h0, .inr (11, [.ref h0t, .ref h0k, .ref h0b, .ref h0v, .int ((nI cn) + 1)])), (h0t, .inl (G.2 2, 120, .inl f)), (h0k, .inl (G.2 0, 121, .inl (upd kd (nI cn).toNatClampNeg (1 : Int32)))), (h0b, .inl (G.2 0, 121, .inl (upd bg (nI cn).toNatClampNeg (nI b)))), (h0v, .inl (G.2 0, 121, .inl (upd vl (nI cn).toNatClampNeg ((f ((nI b).toNatClampNeg)) - 97))))] H locs := hW
            refine W.eq (g2 := F0 m 109 ls []) rfl ?_
            refine lv_iload_n hx hb d_Tokens_scanWord_109 rfl (lv_at hl 4 rfl) ?_
            exact CtX.iret hx hb hr hnl hW (by decide) (by decide) d_Tokens_scanWord_110 (by
          have eE : ee = wEnd f L (b + 1) := by rw [← hg, wE_s (by omega), if_pos (show o_Tokens_isLetter_r (f ee) = 0 by have q := ht11; rw [nI_clamp (by omega)] at q; exact q)]
          have eK : wdK f b ee = 1 := by unfold wdK; rw [if_pos hf14]
          rw [← eE, eK]
          rw [nI_clamp (n := b) (by omega)]
          exact ⟨rfl, rfl⟩)
        · refine lv_iinc (k := 3) (v := nI (ee + 1)) (lv' := [(3, .int (nI (ee + 1))), (0, .ref h0), (1, .int (nI b)), (2, .int (nI L))]) hx hb d_Tokens_scanWord_21 hl rfl (nI_succ ee).symm (by decide) rfl (fun ls hl => ?_)
          refine lv_goto (tgt := 4) hx hb d_Tokens_scanWord_24 rfl ?_
          exact ih4 (ee + 1) ls H locs (by omega) (by omega) (by rw [wE_s (by omega), if_neg (fun q => hf12 (by rw [nI_clamp (by omega)]; exact q))] at hg; rw [show L - (ee + 1) = L - ee - 1 by omega]; exact hg) (by omega) (lv_sub hl [1, 2, 3, 0] rfl) hW
  exact loop4 (_ + 1) (b + 1) ls H locs (Nat.le_refl _) (by omega) rfl (Nat.lt_succ_self _) (lv_sub hl [1, 2, 3, 0] rfl) hW

abbrev rm_cx_Tokens_scanNumber : Room := { frames := 1, cells := 0, slots := 0, locals := 23 }
set_option maxHeartbeats 4000000 in
set_option maxRecDepth 100000 in
theorem cx_Tokens_scanNumber (l : Launch) (G : Gt) (V : Ev) (hfl : l.flags = flags0) (h0 : Nat) (h0t : Nat) (h0k : Nat) (h0b : Nat) (h0v : Nat) (cn : Nat) (f : Nat → Int32) (kd : Nat → Int32) (bg : Nat → Int32) (vl : Nat → Int32) (b : Nat) (L : Nat) (hbL : b < L) (hL : L ≤ 120) (hc : cn ≤ 120) : CtX l G V y_Tokens_scanNumber (.code y_Tokens_scanNumber b_Tokens_scanNumber 5 (some .int)) rm_cx_Tokens_scanNumber [.ref h0, .int (nI b), .int (nI L)] [(h0, .inr (11, [.ref h0t, .ref h0k, .ref h0b, .ref h0v, .int (nI cn)])), (h0t, .inl (G.2 2, 120, .inl f)), (h0k, .inl (G.2 0, 121, .inl kd)), (h0b, .inl (G.2 0, 121, .inl bg)), (h0v, .inl (G.2 0, 121, .inl vl))] 0 0 (fun o w' => o = .inl (some (.int (nI (nEnd f L b).1))) ∧ w' = [(h0, .inr (11, [.ref h0t, .ref h0k, .ref h0b, .ref h0v, .int (nI cn + 1)])), (h0t, .inl (G.2 2, 120, .inl f)), (h0k, .inl (G.2 0, 121, .inl (upd kd (nI cn).toNatClampNeg (if 3 < nI (nEnd f L b).1 - nI b then 7 else 2)))), (h0b, .inl (G.2 0, 121, .inl (upd bg (nI cn).toNatClampNeg (nI b)))), (h0v, .inl (G.2 0, 121, .inl (upd vl (nI cn).toNatClampNeg ((nEnd f L b).2))))]) := by
  refine CtX.of HdOf.code (by decide) (Nat.le_of_ble_eq_true rfl) (fun p e s m args below meth c A ls H locs hx hb hml hr hnl hown hts hnm hK hA hl hW hE htab => ?_)
  have hl : lv_has ls 5 [(0, .ref h0), (1, .int (nI b)), (2, .int (nI L))] := hl
  refine lv_iconst (v := 0) hx hb d_Tokens_scanNumber_0 (by decide) ?_
  refine lv_istore_n (lv' := [(3, .int 0), (0, .ref h0), (1, .int (nI b)), (2, .int (nI L))]) hx hb d_Tokens_scanNumber_1 rfl hl (by decide) rfl (fun ls hl => ?_)
  refine lv_iload_n hx hb d_Tokens_scanNumber_2 rfl (lv_at hl 2 rfl) ?_
  refine lv_istore (lv' := [(4, .int (nI b)), (3, .int 0), (0, .ref h0), (1, .int (nI b)), (2, .int (nI L))]) hx hb d_Tokens_scanNumber_3 hl (by decide) rfl (fun ls hl => ?_)
  have loop5 : ∀ (u : Nat) (ee : Nat) (n : Int32) (ls : Array Slot) (H : Heap) (locs : List Loc), b ≤ ee → ee ≤ L → nE f (L - ee) ee n = nEnd f L b → (L - ee) < u → lv_has ls 5 [(0, .ref h0), (1, .int (nI b)), (2, .int (nI L)), (3, .int n), (4, .int (nI ee))] → Wd G A s.heap [(h0, .inr (11, [.ref h0t, .ref h0k, .ref h0b, .ref h0v, .int (nI cn)])), (h0t, .inl (G.2 2, 120, .inl f)), (h0k, .inl (G.2 0, 121, .inl kd)), (h0b, .inl (G.2 0, 121, .inl bg)), (h0v, .inl (G.2 0, 121, .inl vl))] H locs → W p l e rm_cx_Tokens_scanNumber s m args below meth c H locs 0 0 (MQX below (QX G (fun o w' => o = .inl (some (.int (nI (nEnd f L b).1))) ∧ w' = [(h0, .inr (11, [.ref h0t, .ref h0k, .ref h0b, .ref h0v, .int (nI cn + 1)])), (h0t, .inl (G.2 2, 120, .inl f)), (h0k, .inl (G.2 0, 121, .inl (upd kd (nI cn).toNatClampNeg (if 3 < nI (nEnd f L b).1 - nI b then 7 else 2)))), (h0b, .inl (G.2 0, 121, .inl (upd bg (nI cn).toNatClampNeg (nI b)))), (h0v, .inl (G.2 0, 121, .inl (upd vl (nI cn).toNatClampNeg ((nEnd f L b).2))))]) A) args s 0 0 A) (F0 m 5 ls []) := by
    intro u
    induction u with
    | zero => intro ee n ls H locs he1 he2 hg hu; exact absurd hu (Nat.not_lt_zero _)
    | succ u ih5 =>
      intro ee n ls H locs he1 he2 hg hu5 hl hW
      refine lv_iload hx hb d_Tokens_scanNumber_5 (lv_at hl 4 rfl) ?_
      refine lv_iload_n hx hb d_Tokens_scanNumber_7 rfl (lv_at hl 2 rfl) ?_
      refine lv_icmp_ge (tgt := 46) hx hb d_Tokens_scanNumber_8 rfl (fun ht1 => ?_) (fun hf2 => ?_)
      · have heL : ee = L := by have := (nI_leI (a := L) (b := ee) (by omega) (by omega)).mp ht1; omega
        refine lv_aload_n hx hb d_Tokens_scanNumber_46 rfl (lv_at hl 0 rfl) ?_
        refine lv_iload hx hb d_Tokens_scanNumber_47 (lv_at hl 4 rfl) ?_
        refine lv_iload_n hx hb d_Tokens_scanNumber_49 rfl (lv_at hl 1 rfl) ?_
        refine lv_isub hx hb d_Tokens_scanNumber_50 ?_
        refine lv_iconst (v := 3) hx hb d_Tokens_scanNumber_51 (by decide) ?_
        refine lv_icmp_gt (tgt := 59) hx hb d_Tokens_scanNumber_52 rfl (fun ht3 => ?_) (fun hf4 => ?_)
        · refine lv_bipush (v := 7) hx hb d_Tokens_scanNumber_59 (by decide) ?_
          refine lv_iload_n hx hb d_Tokens_scanNumber_61 rfl (lv_at hl 1 rfl) ?_
          refine lv_iload_n hx hb d_Tokens_scanNumber_62 rfl (lv_at hl 3 rfl) ?_
          refine Ct.callV (As := [.int 7, .int (nI b), .int n]) (rest := []) hx hb hml hown hts hK hA hl.1 hW (c_Tokens_add l G h0 h0t h0k h0b h0v (nI cn) kd bg vl (7 : Int32) (nI b) n (nI_ge0 cn (by omega)) (nI_nge hc)) (cwV 3 hts (good_V w_ml_Tokens_44 w_im_Tokens_add w_se_Tokens_add w_ini_Tokens w_code_Tokens_add) rfl rfl rfl yd_Tokens_add ⟨by decide, by decide⟩) [0, 2, 3, 4] (by decide) rfl (ci := 11) (r := vr_Tokens) rfl rfl rfl rfl rfl (Nat.le_of_ble_eq_true rfl) d_Tokens_scanNumber_63 ⟨by decide, by decide⟩ (fun v w' hp => by obtain ⟨-, rfl⟩ := hp; exact Nat.le_of_ble_eq_true rfl) (fun v w' H locs hp hW => ?_)
          obtain ⟨rfl, rfl⟩ := hp
          have hW : Wd G A s.heap [(h0, .inr (11, [.ref h0t, .ref h0k, .ref h0b, .ref h0v, .int ((nI cn) + 1)])), (h0t, .inl (G.2 2, 120, .inl f)), (h0k, .inl (G.2 0, 121, .inl (upd kd (nI cn).toNatClampNeg (7 : Int32)))), (h0b, .inl (G.2 0, 121, .inl (upd bg (nI cn).toNatClampNeg (nI b)))), (h0v, .inl (G.2 0, 121, .inl (upd vl (nI cn).toNatClampNeg n)))] H locs := hW
          refine W.eq (g2 := F0 m 66 ls []) rfl ?_
          refine lv_iload hx hb d_Tokens_scanNumber_66 (lv_at hl 4 rfl) ?_
          exact CtX.iret hx hb hr hnl hW (by decide) (by decide) d_Tokens_scanNumber_68 (by
          have eE : (ee, n) = nEnd f L b := by rw [← hg, heL, Nat.sub_self]; rfl
          rw [← eE, if_pos ht3]
          exact ⟨rfl, rfl⟩)
        · refine lv_iconst (v := 2) hx hb d_Tokens_scanNumber_55 (by decide) ?_
          refine lv_goto (tgt := 61) hx hb d_Tokens_scanNumber_56 rfl ?_
          refine lv_iload_n hx hb d_Tokens_scanNumber_61 rfl (lv_at hl 1 rfl) ?_
          refine lv_iload_n hx hb d_Tokens_scanNumber_62 rfl (lv_at hl 3 rfl) ?_
          refine Ct.callV (As := [.int 2, .int (nI b), .int n]) (rest := []) hx hb hml hown hts hK hA hl.1 hW (c_Tokens_add l G h0 h0t h0k h0b h0v (nI cn) kd bg vl (2 : Int32) (nI b) n (nI_ge0 cn (by omega)) (nI_nge hc)) (cwV 3 hts (good_V w_ml_Tokens_44 w_im_Tokens_add w_se_Tokens_add w_ini_Tokens w_code_Tokens_add) rfl rfl rfl yd_Tokens_add ⟨by decide, by decide⟩) [0, 2, 3, 4] (by decide) rfl (ci := 11) (r := vr_Tokens) rfl rfl rfl rfl rfl (Nat.le_of_ble_eq_true rfl) d_Tokens_scanNumber_63 ⟨by decide, by decide⟩ (fun v w' hp => by obtain ⟨-, rfl⟩ := hp; exact Nat.le_of_ble_eq_true rfl) (fun v w' H locs hp hW => ?_)
          obtain ⟨rfl, rfl⟩ := hp
          have hW : Wd G A s.heap [(h0, .inr (11, [.ref h0t, .ref h0k, .ref h0b, .ref h0v, .int ((nI cn) + 1)])), (h0t, .inl (G.2 2, 120, .inl f)), (h0k, .inl (G.2 0, 121, .inl (upd kd (nI cn).toNatClampNeg (2 : Int32)))), (h0b, .inl (G.2 0, 121, .inl (upd bg (nI cn).toNatClampNeg (nI b)))), (h0v, .inl (G.2 0, 121, .inl (upd vl (nI cn).toNatClampNeg n)))] H locs := hW
          refine W.eq (g2 := F0 m 66 ls []) rfl ?_
          refine lv_iload hx hb d_Tokens_scanNumber_66 (lv_at hl 4 rfl) ?_
          exact CtX.iret hx hb hr hnl hW (by decide) (by decide) d_Tokens_scanNumber_68 (by
          have eE : (ee, n) = nEnd f L b := by rw [← hg, heL, Nat.sub_self]; rfl
          rw [← eE, if_neg hf4]
          exact ⟨rfl, rfl⟩)
      · have hlt : ee < L := by apply Nat.lt_of_not_le; intro q; exact hf2 (nI_le q (by omega))
        refine lv_aload_n hx hb d_Tokens_scanNumber_11 rfl (lv_at hl 0 rfl) ?_
        refine Wd.get hx hb hts hown hK hW 0 0 in_Tokens w_fl_Tokens_9 (by decide) d_Tokens_scanNumber_12 rfl rfl rfl ?_
        refine lv_iload hx hb d_Tokens_scanNumber_15 (lv_at hl 4 rfl) ?_
        refine Wd.cald hx hb hK hW 1 d_Tokens_scanNumber_17 rfl (vp_in_nI (by omega) (by omega)) ?_
        refine Ct.callS (As := [.int (f ((nI ee).toNatClampNeg))]) (rest := []) hx hb hml hown hts hK hA hl.1 hW (c_Tokens_isDecimal l G (f ((nI ee).toNatClampNeg)) ) (va_cwS 1 hts (good_S w_ml_Tokens_55 w_st_Tokens_isDecimal w_ini_Tokens w_code_Tokens_isDecimal) rfl rfl rfl yd_Tokens_isDecimal.2 ⟨by decide, by decide⟩) [] (by decide) rfl rfl rfl (Nat.le_of_ble_eq_true rfl) d_Tokens_scanNumber_18 ⟨by decide, by decide⟩ (fun v w' hp => by obtain ⟨-, rfl⟩ := hp; exact Nat.le_of_ble_eq_true rfl) (fun v w' H locs hp hW => ?_)
        obtain ⟨rfl, rfl⟩ := hp
        have hW : Wd G A s.heap [(h0, .inr (11, [.ref h0t, .ref h0k, .ref h0b, .ref h0v, .int (nI cn)])), (h0t, .inl (G.2 2, 120, .inl f)), (h0k, .inl (G.2 0, 121, .inl kd)), (h0b, .inl (G.2 0, 121, .inl bg)), (h0v, .inl (G.2 0, 121, .inl vl))] H locs := hW
        refine W.eq (g2 := F0 m 21 ls [.int (o_Tokens_isDecimal_r (f ((nI ee).toNatClampNeg)))]) rfl ?_
        refine lv_if_eq (tgt := 46) hx hb d_Tokens_scanNumber_21 rfl (fun ht5 => ?_) (fun hf6 => ?_)
        · refine lv_aload_n hx hb d_Tokens_scanNumber_46 rfl (lv_at hl 0 rfl) ?_
          refine lv_iload hx hb d_Tokens_scanNumber_47 (lv_at hl 4 rfl) ?_
          refine lv_iload_n hx hb d_Tokens_scanNumber_49 rfl (lv_at hl 1 rfl) ?_
          refine lv_isub hx hb d_Tokens_scanNumber_50 ?_
          refine lv_iconst (v := 3) hx hb d_Tokens_scanNumber_51 (by decide) ?_
          refine lv_icmp_gt (tgt := 59) hx hb d_Tokens_scanNumber_52 rfl (fun ht7 => ?_) (fun hf8 => ?_)
          · refine lv_bipush (v := 7) hx hb d_Tokens_scanNumber_59 (by decide) ?_
            refine lv_iload_n hx hb d_Tokens_scanNumber_61 rfl (lv_at hl 1 rfl) ?_
            refine lv_iload_n hx hb d_Tokens_scanNumber_62 rfl (lv_at hl 3 rfl) ?_
            refine Ct.callV (As := [.int 7, .int (nI b), .int n]) (rest := []) hx hb hml hown hts hK hA hl.1 hW (c_Tokens_add l G h0 h0t h0k h0b h0v (nI cn) kd bg vl (7 : Int32) (nI b) n (nI_ge0 cn (by omega)) (nI_nge hc)) (cwV 3 hts (good_V w_ml_Tokens_44 w_im_Tokens_add w_se_Tokens_add w_ini_Tokens w_code_Tokens_add) rfl rfl rfl yd_Tokens_add ⟨by decide, by decide⟩) [0, 2, 3, 4] (by decide) rfl (ci := 11) (r := vr_Tokens) rfl rfl rfl rfl rfl (Nat.le_of_ble_eq_true rfl) d_Tokens_scanNumber_63 ⟨by decide, by decide⟩ (fun v w' hp => by obtain ⟨-, rfl⟩ := hp; exact Nat.le_of_ble_eq_true rfl) (fun v w' H locs hp hW => ?_)
            obtain ⟨rfl, rfl⟩ := hp
            have hW : Wd G A s.heap [(h0, .inr (11, [.ref h0t, .ref h0k, .ref h0b, .ref h0v, .int ((nI cn) + 1)])), (h0t, .inl (G.2 2, 120, .inl f)), (h0k, .inl (G.2 0, 121, .inl (upd kd (nI cn).toNatClampNeg (7 : Int32)))), (h0b, .inl (G.2 0, 121, .inl (upd bg (nI cn).toNatClampNeg (nI b)))), (h0v, .inl (G.2 0, 121, .inl (upd vl (nI cn).toNatClampNeg n)))] H locs := hW
            refine W.eq (g2 := F0 m 66 ls []) rfl ?_
            refine lv_iload hx hb d_Tokens_scanNumber_66 (lv_at hl 4 rfl) ?_
            exact CtX.iret hx hb hr hnl hW (by decide) (by decide) d_Tokens_scanNumber_68 (by
          have eE : (ee, n) = nEnd f L b := by rw [← hg, nE_s (by omega), if_pos (show o_Tokens_isDecimal_r (f ee) = 0 by have q := ht5; rw [nI_clamp (by omega)] at q; exact q)]
          rw [← eE, if_pos ht7]
          exact ⟨rfl, rfl⟩)
          · refine lv_iconst (v := 2) hx hb d_Tokens_scanNumber_55 (by decide) ?_
            refine lv_goto (tgt := 61) hx hb d_Tokens_scanNumber_56 rfl ?_
            refine lv_iload_n hx hb d_Tokens_scanNumber_61 rfl (lv_at hl 1 rfl) ?_
            refine lv_iload_n hx hb d_Tokens_scanNumber_62 rfl (lv_at hl 3 rfl) ?_
            refine Ct.callV (As := [.int 2, .int (nI b), .int n]) (rest := []) hx hb hml hown hts hK hA hl.1 hW (c_Tokens_add l G h0 h0t h0k h0b h0v (nI cn) kd bg vl (2 : Int32) (nI b) n (nI_ge0 cn (by omega)) (nI_nge hc)) (cwV 3 hts (good_V w_ml_Tokens_44 w_im_Tokens_add w_se_Tokens_add w_ini_Tokens w_code_Tokens_add) rfl rfl rfl yd_Tokens_add ⟨by decide, by decide⟩) [0, 2, 3, 4] (by decide) rfl (ci := 11) (r := vr_Tokens) rfl rfl rfl rfl rfl (Nat.le_of_ble_eq_true rfl) d_Tokens_scanNumber_63 ⟨by decide, by decide⟩ (fun v w' hp => by obtain ⟨-, rfl⟩ := hp; exact Nat.le_of_ble_eq_true rfl) (fun v w' H locs hp hW => ?_)
            obtain ⟨rfl, rfl⟩ := hp
            have hW : Wd G A s.heap [(h0, .inr (11, [.ref h0t, .ref h0k, .ref h0b, .ref h0v, .int ((nI cn) + 1)])), (h0t, .inl (G.2 2, 120, .inl f)), (h0k, .inl (G.2 0, 121, .inl (upd kd (nI cn).toNatClampNeg (2 : Int32)))), (h0b, .inl (G.2 0, 121, .inl (upd bg (nI cn).toNatClampNeg (nI b)))), (h0v, .inl (G.2 0, 121, .inl (upd vl (nI cn).toNatClampNeg n)))] H locs := hW
            refine W.eq (g2 := F0 m 66 ls []) rfl ?_
            refine lv_iload hx hb d_Tokens_scanNumber_66 (lv_at hl 4 rfl) ?_
            exact CtX.iret hx hb hr hnl hW (by decide) (by decide) d_Tokens_scanNumber_68 (by
          have eE : (ee, n) = nEnd f L b := by rw [← hg, nE_s (by omega), if_pos (show o_Tokens_isDecimal_r (f ee) = 0 by have q := ht5; rw [nI_clamp (by omega)] at q; exact q)]
          rw [← eE, if_neg hf8]
          exact ⟨rfl, rfl⟩)
        · refine lv_bipush (v := 10) hx hb d_Tokens_scanNumber_24 (by decide) ?_
          refine lv_iload_n hx hb d_Tokens_scanNumber_26 rfl (lv_at hl 3 rfl) ?_
          refine lv_imul hx hb d_Tokens_scanNumber_27 ?_
          refine lv_aload_n hx hb d_Tokens_scanNumber_28 rfl (lv_at hl 0 rfl) ?_
          refine Wd.get hx hb hts hown hK hW 0 0 in_Tokens w_fl_Tokens_9 (by decide) d_Tokens_scanNumber_29 rfl rfl rfl ?_
          refine lv_iload hx hb d_Tokens_scanNumber_32 (lv_at hl 4 rfl) ?_
          refine Wd.cald hx hb hK hW 1 d_Tokens_scanNumber_34 rfl (vp_in_nI (by omega) (by omega)) ?_
          refine lv_iadd hx hb d_Tokens_scanNumber_35 ?_
          refine lv_bipush (v := 48) hx hb d_Tokens_scanNumber_36 (by decide) ?_
          refine lv_isub hx hb d_Tokens_scanNumber_38 ?_
          refine lv_istore_n (lv' := [(3, .int (((10 * n) + (f ((nI ee).toNatClampNeg))) - 48)), (0, .ref h0), (1, .int (nI b)), (2, .int (nI L)), (4, .int (nI ee))]) hx hb d_Tokens_scanNumber_39 rfl hl (by decide) rfl (fun ls hl => ?_)
          refine lv_iinc (k := 4) (v := nI (ee + 1)) (lv' := [(4, .int (nI (ee + 1))), (3, .int (((10 * n) + (f ((nI ee).toNatClampNeg))) - 48)), (0, .ref h0), (1, .int (nI b)), (2, .int (nI L))]) hx hb d_Tokens_scanNumber_40 hl rfl (nI_succ ee).symm (by decide) rfl (fun ls hl => ?_)
          refine lv_goto (tgt := 5) hx hb d_Tokens_scanNumber_43 rfl ?_
          exact ih5 (ee + 1) (((10 * n) + (f ((nI ee).toNatClampNeg))) - 48) ls H locs (by omega) (by omega) (by rw [nE_s (by omega), if_neg (fun q => hf6 (by rw [nI_clamp (by omega)]; exact q))] at hg; rw [show L - (ee + 1) = L - ee - 1 by omega, nI_clamp (n := ee) (by omega)]; exact hg) (by omega) (lv_sub hl [2, 3, 4, 1, 0] rfl) hW
  exact loop5 (_ + 1) b 0 ls H locs (Nat.le_refl _) (by omega) rfl (Nat.lt_succ_self _) (lv_sub hl [2, 3, 4, 1, 0] rfl) hW

abbrev rm__Tokens_scanToken : Room := { frames := 6, cells := 0, slots := 0, locals := 133 }
set_option maxHeartbeats 4000000 in
set_option maxRecDepth 100000 in
theorem cx_Tokens_scanToken (l : Launch) (G : Gt) (V : Ev) (hfl : l.flags = flags0) (h0 : Nat) (h0t : Nat) (h0k : Nat) (h0b : Nat) (h0v : Nat) (cn : Nat) (f : Nat → Int32) (kd : Nat → Int32) (bg : Nat → Int32) (vl : Nat → Int32) (b : Nat) (L : Nat) (hbL : b < L) (hL : L ≤ 120) (hc : cn ≤ 120) (hf0 : ∀ j, j < L → ¬ f j < 0) (hf1 : ∀ j, j < L → ¬ 255 < f j) : CtX l G V y_Tokens_scanToken (.code y_Tokens_scanToken b_Tokens_scanToken 4 (some .int)) rm__Tokens_scanToken [.ref h0, .int (nI b), .int (nI L)] [(h0, .inr (11, [.ref h0t, .ref h0k, .ref h0b, .ref h0v, .int (nI cn)])), (h0t, .inl (G.2 2, 120, .inl f)), (h0k, .inl (G.2 0, 121, .inl kd)), (h0b, .inl (G.2 0, 121, .inl bg)), (h0v, .inl (G.2 0, 121, .inl vl))] 0 0 (fun o w' => o = .inl (some (.int (nI (tkT f L b).1))) ∧ w' = [(h0, .inr (11, [.ref h0t, .ref h0k, .ref h0b, .ref h0v, .int (nI cn + 1)])), (h0t, .inl (G.2 2, 120, .inl f)), (h0k, .inl (G.2 0, 121, .inl (upd kd (nI cn).toNatClampNeg ((tkT f L b).2.1)))), (h0b, .inl (G.2 0, 121, .inl (upd bg (nI cn).toNatClampNeg (nI b)))), (h0v, .inl (G.2 0, 121, .inl (upd vl (nI cn).toNatClampNeg ((tkT f L b).2.2))))]) := by
  refine CtX.of HdOf.code (by decide) (Nat.le_of_ble_eq_true rfl) (fun p e s m args below meth c A ls H locs hx hb hml hr hnl hown hts hnm hK hA hl hW hE htab => ?_)
  have hl : lv_has ls 4 [(0, .ref h0), (1, .int (nI b)), (2, .int (nI L))] := hl
  refine lv_aload_n hx hb d_Tokens_scanToken_0 rfl (lv_at hl 0 rfl) ?_
  refine Wd.get hx hb hts hown hK hW 0 0 in_Tokens w_fl_Tokens_9 (by decide) d_Tokens_scanToken_1 rfl rfl rfl ?_
  refine lv_iload_n hx hb d_Tokens_scanToken_4 rfl (lv_at hl 1 rfl) ?_
  refine Wd.cald hx hb hK hW 1 d_Tokens_scanToken_5 rfl (vp_in_nI (by omega) (by omega)) ?_
  refine lv_istore_n (lv' := [(3, .int (f ((nI b).toNatClampNeg))), (0, .ref h0), (1, .int (nI b)), (2, .int (nI L))]) hx hb d_Tokens_scanToken_6 rfl hl (by decide) rfl (fun ls hl => ?_)
  refine lv_iload_n hx hb d_Tokens_scanToken_7 rfl (lv_at hl 0 rfl) ?_
  refine Ct.callS (As := [.int (f ((nI b).toNatClampNeg))]) (rest := []) hx hb hml hown hts hK hA hl.1 hW (c_Tokens_isLetter l G (f ((nI b).toNatClampNeg)) ) (va_cwS 1 hts (good_S w_ml_Tokens_48 w_st_Tokens_isLetter w_ini_Tokens w_code_Tokens_isLetter) rfl rfl rfl yd_Tokens_isLetter.2 ⟨by decide, by decide⟩) [] (by decide) rfl rfl rfl (Nat.le_of_ble_eq_true rfl) d_Tokens_scanToken_8 ⟨by decide, by decide⟩ (fun v w' hp => by obtain ⟨-, rfl⟩ := hp; exact Nat.le_of_ble_eq_true rfl) (fun v w' H locs hp hW => ?_)
  obtain ⟨rfl, rfl⟩ := hp
  have hW : Wd G A s.heap [(h0, .inr (11, [.ref h0t, .ref h0k, .ref h0b, .ref h0v, .int (nI cn)])), (h0t, .inl (G.2 2, 120, .inl f)), (h0k, .inl (G.2 0, 121, .inl kd)), (h0b, .inl (G.2 0, 121, .inl bg)), (h0v, .inl (G.2 0, 121, .inl vl))] H locs := hW
  refine W.eq (g2 := F0 m 11 ls [.int (o_Tokens_isLetter_r (f ((nI b).toNatClampNeg)))]) rfl ?_
  refine lv_if_eq (tgt := 21) hx hb d_Tokens_scanToken_11 rfl (fun ht1 => ?_) (fun hf2 => ?_)
  · refine lv_iload_n hx hb d_Tokens_scanToken_21 rfl (lv_at hl 0 rfl) ?_
    refine Ct.callS (As := [.int (f ((nI b).toNatClampNeg))]) (rest := []) hx hb hml hown hts hK hA hl.1 hW (c_Tokens_isDecimal l G (f ((nI b).toNatClampNeg)) ) (va_cwS 1 hts (good_S w_ml_Tokens_55 w_st_Tokens_isDecimal w_ini_Tokens w_code_Tokens_isDecimal) rfl rfl rfl yd_Tokens_isDecimal.2 ⟨by decide, by decide⟩) [] (by decide) rfl rfl rfl (Nat.le_of_ble_eq_true rfl) d_Tokens_scanToken_22 ⟨by decide, by decide⟩ (fun v w' hp => by obtain ⟨-, rfl⟩ := hp; exact Nat.le_of_ble_eq_true rfl) (fun v w' H locs hp hW => ?_)
    obtain ⟨rfl, rfl⟩ := hp
    have hW : Wd G A s.heap [(h0, .inr (11, [.ref h0t, .ref h0k, .ref h0b, .ref h0v, .int (nI cn)])), (h0t, .inl (G.2 2, 120, .inl f)), (h0k, .inl (G.2 0, 121, .inl kd)), (h0b, .inl (G.2 0, 121, .inl bg)), (h0v, .inl (G.2 0, 121, .inl vl))] H locs := hW
    refine W.eq (g2 := F0 m 25 ls [.int (o_Tokens_isDecimal_r (f ((nI b).toNatClampNeg)))]) rfl ?_
    refine lv_if_eq (tgt := 35) hx hb d_Tokens_scanToken_25 rfl (fun ht3 => ?_) (fun hf4 => ?_)
    · refine lv_aload_n hx hb d_Tokens_scanToken_35 rfl (lv_at hl 1 rfl) ?_
      refine va_ldcS (own := "ThreeClerks$Tokens") (index := 61) (tx := sTx 3) (q := V.1 3) hx hb hown (hE.2.1 3 (by decide)) d_Tokens_scanToken_36 ?_
      refine lv_iload_n hx hb d_Tokens_scanToken_38 rfl (lv_at hl 0 rfl) ?_
      refine CtX.callK (i := 3) (As := [.int (f ((nI b).toNatClampNeg))]) (rest := [.ref h0]) hx hb hml hown hts hK hE hA hl.1 hW (cx_JString_indexOf0 l G V hfl (f ((nI b).toNatClampNeg)) (by rw [nI_clamp (by omega)]; exact hf0 b hbL) (by rw [nI_clamp (by omega)]; exact hf1 b hbL)) (by decide) (hts _ w_ml_Tokens_63) (hts _ w_im_JString_indexOf0) (hts _ w_se_JString_indexOf0) (hts _ w_ini_JString) (hts _ w_code_JString_indexOf0) yd_JString_indexOf0.2 [] (by decide) rfl rfl rfl (Nat.le_of_ble_eq_true rfl) d_Tokens_scanToken_39 (by decide) (by decide) rfl rfl ⟨by decide, by decide⟩ (fun o w' hp => by rw [hp.2]; exact Nat.le_of_ble_eq_true rfl) (fun v w' H locs hp hW => ?_) (fun X a cell w' H locs hp => absurd hp.1 (fun h => by cases h))
      obtain ⟨hv, rfl⟩ := hp
      cases hv
      have hW : Wd G A s.heap [(h0, .inr (11, [.ref h0t, .ref h0k, .ref h0b, .ref h0v, .int (nI cn)])), (h0t, .inl (G.2 2, 120, .inl f)), (h0k, .inl (G.2 0, 121, .inl kd)), (h0b, .inl (G.2 0, 121, .inl bg)), (h0v, .inl (G.2 0, 121, .inl vl))] H locs := hW
      refine W.eq (g2 := F0 m 42 ls [.int (o_JStringLatin1_indexOfChar_r (f ((nI b).toNatClampNeg))), .ref h0]) rfl ?_
      refine lv_if_lt (tgt := 49) hx hb d_Tokens_scanToken_42 rfl (fun ht5 => ?_) (fun hf6 => ?_)
      · refine lv_bipush (v := 7) hx hb d_Tokens_scanToken_49 (by decide) ?_
        refine lv_iload_n hx hb d_Tokens_scanToken_51 rfl (lv_at hl 2 rfl) ?_
        refine lv_iload_n hx hb d_Tokens_scanToken_52 rfl (lv_at hl 0 rfl) ?_
        refine Ct.callV (As := [.int 7, .int (nI b), .int (f ((nI b).toNatClampNeg))]) (rest := []) hx hb hml hown hts hK hA hl.1 hW (c_Tokens_add l G h0 h0t h0k h0b h0v (nI cn) kd bg vl (7 : Int32) (nI b) (f ((nI b).toNatClampNeg)) (nI_ge0 cn (by omega)) (nI_nge hc)) (cwV 3 hts (good_V w_ml_Tokens_44 w_im_Tokens_add w_se_Tokens_add w_ini_Tokens w_code_Tokens_add) rfl rfl rfl yd_Tokens_add ⟨by decide, by decide⟩) [0, 2, 3, 4] (by decide) rfl (ci := 11) (r := vr_Tokens) rfl rfl rfl rfl rfl (Nat.le_of_ble_eq_true rfl) d_Tokens_scanToken_53 ⟨by decide, by decide⟩ (fun v w' hp => by obtain ⟨-, rfl⟩ := hp; exact Nat.le_of_ble_eq_true rfl) (fun v w' H locs hp hW => ?_)
        obtain ⟨rfl, rfl⟩ := hp
        have hW : Wd G A s.heap [(h0, .inr (11, [.ref h0t, .ref h0k, .ref h0b, .ref h0v, .int ((nI cn) + 1)])), (h0t, .inl (G.2 2, 120, .inl f)), (h0k, .inl (G.2 0, 121, .inl (upd kd (nI cn).toNatClampNeg (7 : Int32)))), (h0b, .inl (G.2 0, 121, .inl (upd bg (nI cn).toNatClampNeg (nI b)))), (h0v, .inl (G.2 0, 121, .inl (upd vl (nI cn).toNatClampNeg (f ((nI b).toNatClampNeg)))))] H locs := hW
        refine W.eq (g2 := F0 m 56 ls []) rfl ?_
        refine lv_iload_n hx hb d_Tokens_scanToken_56 rfl (lv_at hl 2 rfl) ?_
        refine lv_iconst (v := 1) hx hb d_Tokens_scanToken_57 (by decide) ?_
        refine lv_iadd hx hb d_Tokens_scanToken_58 ?_
        exact CtX.iret hx hb hr hnl hW (by decide) (by decide) d_Tokens_scanToken_59 (by
      unfold tkT
      rw [if_pos (show (o_Tokens_isLetter_r (f (b))) = 0 from (by have q := ht1; rw [nI_clamp (n := b) (by omega)] at q; exact q)), if_pos (show (o_Tokens_isDecimal_r (f (b))) = 0 from (by have q := ht3; rw [nI_clamp (n := b) (by omega)] at q; exact q)), if_pos (show (o_JStringLatin1_indexOfChar_r (f (b))) < 0 from (by have q := ht5; rw [nI_clamp (n := b) (by omega)] at q; exact q))]
      rw [nI_succ, nI_clamp (n := b) (by omega)]
      exact ⟨rfl, rfl⟩)
      · refine lv_iconst (v := 3) hx hb d_Tokens_scanToken_45 (by decide) ?_
        refine lv_goto (tgt := 51) hx hb d_Tokens_scanToken_46 rfl ?_
        refine lv_iload_n hx hb d_Tokens_scanToken_51 rfl (lv_at hl 2 rfl) ?_
        refine lv_iload_n hx hb d_Tokens_scanToken_52 rfl (lv_at hl 0 rfl) ?_
        refine Ct.callV (As := [.int 3, .int (nI b), .int (f ((nI b).toNatClampNeg))]) (rest := []) hx hb hml hown hts hK hA hl.1 hW (c_Tokens_add l G h0 h0t h0k h0b h0v (nI cn) kd bg vl (3 : Int32) (nI b) (f ((nI b).toNatClampNeg)) (nI_ge0 cn (by omega)) (nI_nge hc)) (cwV 3 hts (good_V w_ml_Tokens_44 w_im_Tokens_add w_se_Tokens_add w_ini_Tokens w_code_Tokens_add) rfl rfl rfl yd_Tokens_add ⟨by decide, by decide⟩) [0, 2, 3, 4] (by decide) rfl (ci := 11) (r := vr_Tokens) rfl rfl rfl rfl rfl (Nat.le_of_ble_eq_true rfl) d_Tokens_scanToken_53 ⟨by decide, by decide⟩ (fun v w' hp => by obtain ⟨-, rfl⟩ := hp; exact Nat.le_of_ble_eq_true rfl) (fun v w' H locs hp hW => ?_)
        obtain ⟨rfl, rfl⟩ := hp
        have hW : Wd G A s.heap [(h0, .inr (11, [.ref h0t, .ref h0k, .ref h0b, .ref h0v, .int ((nI cn) + 1)])), (h0t, .inl (G.2 2, 120, .inl f)), (h0k, .inl (G.2 0, 121, .inl (upd kd (nI cn).toNatClampNeg (3 : Int32)))), (h0b, .inl (G.2 0, 121, .inl (upd bg (nI cn).toNatClampNeg (nI b)))), (h0v, .inl (G.2 0, 121, .inl (upd vl (nI cn).toNatClampNeg (f ((nI b).toNatClampNeg)))))] H locs := hW
        refine W.eq (g2 := F0 m 56 ls []) rfl ?_
        refine lv_iload_n hx hb d_Tokens_scanToken_56 rfl (lv_at hl 2 rfl) ?_
        refine lv_iconst (v := 1) hx hb d_Tokens_scanToken_57 (by decide) ?_
        refine lv_iadd hx hb d_Tokens_scanToken_58 ?_
        exact CtX.iret hx hb hr hnl hW (by decide) (by decide) d_Tokens_scanToken_59 (by
      unfold tkT
      rw [if_pos (show (o_Tokens_isLetter_r (f (b))) = 0 from (by have q := ht1; rw [nI_clamp (n := b) (by omega)] at q; exact q)), if_pos (show (o_Tokens_isDecimal_r (f (b))) = 0 from (by have q := ht3; rw [nI_clamp (n := b) (by omega)] at q; exact q)), if_neg (show ¬ (o_JStringLatin1_indexOfChar_r (f (b))) < 0 from (by have q := hf6; rw [nI_clamp (n := b) (by omega)] at q; exact q))]
      rw [nI_succ, nI_clamp (n := b) (by omega)]
      exact ⟨rfl, rfl⟩)
    · refine lv_aload_n hx hb d_Tokens_scanToken_28 rfl (lv_at hl 1 rfl) ?_
      refine lv_iload_n hx hb d_Tokens_scanToken_29 rfl (lv_at hl 2 rfl) ?_
      refine lv_iload_n hx hb d_Tokens_scanToken_30 rfl (lv_at hl 3 rfl) ?_
      refine CtX.callV (C := "ThreeClerks$Tokens") (As := [.int (nI b), .int (nI L)]) (rest := []) hx hb hml hown hts hK hE hA hl.1 hW (cx_Tokens_scanNumber l G V hfl h0 h0t h0k h0b h0v cn f kd bg vl b L (by first | assumption | omega | decide) (by first | assumption | omega | decide) (by first | assumption | omega | decide)) w_ml_Tokens_58 w_im_Tokens_scanNumber w_se_Tokens_scanNumber w_ini_Tokens w_code_Tokens_scanNumber yd_Tokens_scanNumber.2 [0, 1, 2, 3, 4] (by decide) rfl (ci := 11) (r := vr_Tokens) rfl rfl rfl rfl rfl (Nat.le_of_ble_eq_true rfl) d_Tokens_scanToken_31 (by decide) (by decide) rfl rfl ⟨by decide, by decide⟩ (fun o w' hp => by rw [hp.2]; exact Nat.le_of_ble_eq_true rfl) (fun v w' H locs hp hW => ?_) (fun X a cell w' H locs hp => absurd hp.1 (fun h => by cases h))
      obtain ⟨hv, rfl⟩ := hp
      cases hv
      have hW : Wd G A s.heap [(h0, .inr (11, [.ref h0t, .ref h0k, .ref h0b, .ref h0v, .int (nI cn + 1)])), (h0t, .inl (G.2 2, 120, .inl f)), (h0k, .inl (G.2 0, 121, .inl (upd kd (nI cn).toNatClampNeg (if 3 < nI (nEnd f L b).1 - nI b then 7 else 2)))), (h0b, .inl (G.2 0, 121, .inl (upd bg (nI cn).toNatClampNeg (nI b)))), (h0v, .inl (G.2 0, 121, .inl (upd vl (nI cn).toNatClampNeg ((nEnd f L b).2))))] H locs := hW
      refine W.eq (g2 := F0 m 34 ls [.int (nI (nEnd f L b).1)]) rfl ?_
      exact CtX.iret hx hb hr hnl hW (by decide) (by decide) d_Tokens_scanToken_34 (by
      unfold tkT
      rw [if_pos (show (o_Tokens_isLetter_r (f (b))) = 0 from (by have q := ht1; rw [nI_clamp (n := b) (by omega)] at q; exact q)), if_neg (show ¬ (o_Tokens_isDecimal_r (f (b))) = 0 from (by have q := hf4; rw [nI_clamp (n := b) (by omega)] at q; exact q))]
      exact ⟨rfl, rfl⟩)
  · refine lv_aload_n hx hb d_Tokens_scanToken_14 rfl (lv_at hl 1 rfl) ?_
    refine lv_iload_n hx hb d_Tokens_scanToken_15 rfl (lv_at hl 2 rfl) ?_
    refine lv_iload_n hx hb d_Tokens_scanToken_16 rfl (lv_at hl 3 rfl) ?_
    refine CtX.callV (C := "ThreeClerks$Tokens") (As := [.int (nI b), .int (nI L)]) (rest := []) hx hb hml hown hts hK hE hA hl.1 hW (cx_Tokens_scanWord l G V hfl h0 h0t h0k h0b h0v cn f kd bg vl b L (by first | assumption | omega | decide) (by first | assumption | omega | decide) (by first | assumption | omega | decide)) w_ml_Tokens_52 w_im_Tokens_scanWord w_se_Tokens_scanWord w_ini_Tokens w_code_Tokens_scanWord yd_Tokens_scanWord.2 [0, 1, 2, 3, 4] (by decide) rfl (ci := 11) (r := vr_Tokens) rfl rfl rfl rfl rfl (Nat.le_of_ble_eq_true rfl) d_Tokens_scanToken_17 (by decide) (by decide) rfl rfl ⟨by decide, by decide⟩ (fun o w' hp => by rw [hp.2]; exact Nat.le_of_ble_eq_true rfl) (fun v w' H locs hp hW => ?_) (fun X a cell w' H locs hp => absurd hp.1 (fun h => by cases h))
    obtain ⟨hv, rfl⟩ := hp
    cases hv
    have hW : Wd G A s.heap [(h0, .inr (11, [.ref h0t, .ref h0k, .ref h0b, .ref h0v, .int (nI cn + 1)])), (h0t, .inl (G.2 2, 120, .inl f)), (h0k, .inl (G.2 0, 121, .inl (upd kd (nI cn).toNatClampNeg (wdK f b (wEnd f L (b + 1)))))), (h0b, .inl (G.2 0, 121, .inl (upd bg (nI cn).toNatClampNeg (nI b)))), (h0v, .inl (G.2 0, 121, .inl (upd vl (nI cn).toNatClampNeg (f b - 97))))] H locs := hW
    refine W.eq (g2 := F0 m 20 ls [.int (nI (wEnd f L (b + 1)))]) rfl ?_
    exact CtX.iret hx hb hr hnl hW (by decide) (by decide) d_Tokens_scanToken_20 (by
      unfold tkT
      rw [if_neg (show ¬ (o_Tokens_isLetter_r (f (b))) = 0 from (by have q := hf2; rw [nI_clamp (n := b) (by omega)] at q; exact q))]
      exact ⟨rfl, rfl⟩)

