/-! the draft: tasks put to it -/
def adS (X : ScT) (a t f s h : Int32) : ScT := if X.2.2.2.2.2.1 < 132 then (upd X.1 X.2.2.2.2.2.1.toNatClampNeg a, upd X.2.1 X.2.2.2.2.2.1.toNatClampNeg t, upd X.2.2.1 X.2.2.2.2.2.1.toNatClampNeg f, upd X.2.2.2.1 X.2.2.2.2.2.1.toNatClampNeg s, upd X.2.2.2.2.1 X.2.2.2.2.2.1.toNatClampNeg h, X.2.2.2.2.2.1 + 1, X.2.2.2.2.2.2) else X
def tkC (X : ScT) (x : Int32) : Int32 × ScT := if X.2.2.2.2.2.2.1 + x ≤ 12 then (1, (X.1, X.2.1, X.2.2.1, X.2.2.2.1, X.2.2.2.2.1, X.2.2.2.2.2.1, X.2.2.2.2.2.2.1 + x, X.2.2.2.2.2.2.2)) else (0, X)
def tkO (X : ScT) : Int32 × ScT := if X.2.2.2.2.2.2.2.1 < 16 then (1, (X.1, X.2.1, X.2.2.1, X.2.2.2.1, X.2.2.2.2.1, X.2.2.2.2.2.1, X.2.2.2.2.2.2.1, X.2.2.2.2.2.2.2.1 + 1, X.2.2.2.2.2.2.2.2)) else (0, X)
def nmS (X : ScT) (x : Int32) : ScT := (X.1, X.2.1, X.2.2.1, X.2.2.2.1, X.2.2.2.2.1, X.2.2.2.2.2.1, X.2.2.2.2.2.2.1, X.2.2.2.2.2.2.2.1, X.2.2.2.2.2.2.2.2 ||| (1 <<< (x &&& 31)))
def clS (X : ScT) : ScT := (X.1, X.2.1, X.2.2.1, X.2.2.2.1, X.2.2.2.2.1, 0, 0, 0, 0)
def swI : Nat → Nat → ScT → ScT
  | 0, _, X => X
  | n + 1, r, X => swI n (r + 1) (adS X 6 (nI r) (nI r) (nI (r + 1)) 0)
def swO (a : Nat) : Nat → ScT → ScT
  | 0, X => X
  | n + 1, X => swO a n (swI (n + 1) a X)
def smI : Nat → Nat → ScT → ScT
  | 0, _, X => X
  | n + 1, r, X => smI n (r + 1) (adS X 1 (nI r) (nI r - 1) (nI r) 0)
theorem adS_c0 {X : ScT} {a t f s h : Int32} (hc : ¬ X.2.2.2.2.2.1 < 0) : ¬ (adS X a t f s h).2.2.2.2.2.1 < 0 := by
  unfold adS
  split
  · next h2 =>
    show ¬ X.2.2.2.2.2.1 + 1 < 0
    obtain ⟨j, hj, ej⟩ := nI_of hc
    rw [ej] at h2 ⊢
    have : j < 132 := (nI_ltI (a := j) (b := 132) hj (by decide)).mp h2
    rw [← nI_succ]
    exact nI_pos (by omega)
  · exact hc
theorem swI_c0 : ∀ (n r : Nat) {X : ScT}, ¬ X.2.2.2.2.2.1 < 0 → ¬ (swI n r X).2.2.2.2.2.1 < 0
  | 0, _, _, h => h
  | n + 1, r, _, h => swI_c0 n (r + 1) (adS_c0 h)
theorem sw_s {n r : Nat} {X : ScT} (hn : 0 < n) : swI n r X = swI (n - 1) (r + 1) (adS X 6 (nI r) (nI r) (nI (r + 1)) 0) := by
  obtain ⟨v, rfl⟩ : ∃ v, n = v + 1 := ⟨n - 1, by omega⟩
  rfl
theorem swo_s {a n : Nat} {X : ScT} (hn : 0 < n) : swO a n X = swO a (n - 1) (swI n a X) := by
  obtain ⟨v, rfl⟩ : ∃ v, n = v + 1 := ⟨n - 1, by omega⟩
  rfl
theorem sm_s {n r : Nat} {X : ScT} (hn : 0 < n) : smI n r X = smI (n - 1) (r + 1) (adS X 1 (nI r) (nI r - 1) (nI r) 0) := by
  obtain ⟨v, rfl⟩ : ∃ v, n = v + 1 := ⟨n - 1, by omega⟩
  rfl

abbrev rm_Script_addX : Room := { frames := 0, cells := 0, slots := 0, locals := 0 }
set_option maxHeartbeats 4000000 in
set_option maxRecDepth 100000 in
theorem c_Script_addX (l : Launch) (G : Gt) (h : Nat → Nat) (X : ScT) (x0 : Int32) (x1 : Int32) (x2 : Int32) (x3 : Int32) (x4 : Int32) (hc0 : ¬ X.2.2.2.2.2.1 < 0) : Ct l G y_Script_add b_Script_add 6 none rm_Script_addX [.ref (h 0), .int x0, .int x1, .int x2, .int x3, .int x4] [(h 0, .inr (10, [.ref (h 1), .ref (h 2), .ref (h 3), .ref (h 4), .ref (h 5), .int X.2.2.2.2.2.1, .int X.2.2.2.2.2.2.1, .int X.2.2.2.2.2.2.2.1, .int X.2.2.2.2.2.2.2.2])), (h 1, .inl (G.2 0, 132, .inl X.1)), (h 2, .inl (G.2 0, 132, .inl X.2.1)), (h 3, .inl (G.2 0, 132, .inl X.2.2.1)), (h 4, .inl (G.2 0, 132, .inl X.2.2.2.1)), (h 5, .inl (G.2 0, 132, .inl X.2.2.2.2.1))] 0 0 (fun v w' => v = none ∧ w' = [(h 0, .inr (10, [.ref (h 1), .ref (h 2), .ref (h 3), .ref (h 4), .ref (h 5), .int ((adS X x0 x1 x2 x3 x4).2.2.2.2.2.1), .int ((adS X x0 x1 x2 x3 x4).2.2.2.2.2.2.1), .int ((adS X x0 x1 x2 x3 x4).2.2.2.2.2.2.2.1), .int ((adS X x0 x1 x2 x3 x4).2.2.2.2.2.2.2.2)])), (h 1, .inl (G.2 0, 132, .inl ((adS X x0 x1 x2 x3 x4).1))), (h 2, .inl (G.2 0, 132, .inl ((adS X x0 x1 x2 x3 x4).2.1))), (h 3, .inl (G.2 0, 132, .inl ((adS X x0 x1 x2 x3 x4).2.2.1))), (h 4, .inl (G.2 0, 132, .inl ((adS X x0 x1 x2 x3 x4).2.2.2.1))), (h 5, .inl (G.2 0, 132, .inl ((adS X x0 x1 x2 x3 x4).2.2.2.2.1)))]) := by
  refine Ct.of (by decide) (Nat.le_of_ble_eq_true rfl) (fun p e s m args below meth c A ls H locs hx hb hml hr hnl hown hts hnm hK hA hl hW => ?_)
  have hl : lv_has ls 6 [(0, .ref (h 0)), (1, .int x0), (2, .int x1), (3, .int x2), (4, .int x3), (5, .int x4)] := hl
  refine lv_aload_n hx hb d_Script_add_0 rfl (lv_at hl 0 rfl) ?_
  refine Wd.get hx hb hts hown hK hW 0 5 in_Script w_fl_Script_27 (by decide) d_Script_add_1 rfl rfl rfl ?_
  refine lv_sipush (v := 132) hx hb d_Script_add_4 (by decide) ?_
  refine lv_icmp_lt (tgt := 11) hx hb d_Script_add_7 rfl (fun ht1 => ?_) (fun hf2 => ?_)
  · refine lv_aload_n hx hb d_Script_add_11 rfl (lv_at hl 0 rfl) ?_
    refine Wd.get hx hb hts hown hK hW 0 0 in_Script w_fl_Script_11 (by decide) d_Script_add_12 rfl rfl rfl ?_
    refine lv_aload_n hx hb d_Script_add_15 rfl (lv_at hl 0 rfl) ?_
    refine Wd.get hx hb hts hown hK hW 0 5 in_Script w_fl_Script_27 (by decide) d_Script_add_16 rfl rfl rfl ?_
    refine lv_iload_n hx hb d_Script_add_19 rfl (lv_at hl 1 rfl) ?_
    refine Wd.iast hx hb hK hW 1 d_Script_add_20 rfl (vp_in_t 132 (by decide) hc0 (by assumption)) (fun H locs hW => ?_)
    have hW : Wd G A s.heap [(h 0, .inr (10, [.ref (h 1), .ref (h 2), .ref (h 3), .ref (h 4), .ref (h 5), .int X.2.2.2.2.2.1, .int X.2.2.2.2.2.2.1, .int X.2.2.2.2.2.2.2.1, .int X.2.2.2.2.2.2.2.2])), (h 1, .inl (G.2 0, 132, .inl (upd X.1 X.2.2.2.2.2.1.toNatClampNeg x0))), (h 2, .inl (G.2 0, 132, .inl X.2.1)), (h 3, .inl (G.2 0, 132, .inl X.2.2.1)), (h 4, .inl (G.2 0, 132, .inl X.2.2.2.1)), (h 5, .inl (G.2 0, 132, .inl X.2.2.2.2.1))] H locs := hW
    refine lv_aload_n hx hb d_Script_add_21 rfl (lv_at hl 0 rfl) ?_
    refine Wd.get hx hb hts hown hK hW 0 1 in_Script w_fl_Script_15 (by decide) d_Script_add_22 rfl rfl rfl ?_
    refine lv_aload_n hx hb d_Script_add_25 rfl (lv_at hl 0 rfl) ?_
    refine Wd.get hx hb hts hown hK hW 0 5 in_Script w_fl_Script_27 (by decide) d_Script_add_26 rfl rfl rfl ?_
    refine lv_iload_n hx hb d_Script_add_29 rfl (lv_at hl 2 rfl) ?_
    refine Wd.iast hx hb hK hW 2 d_Script_add_30 rfl (vp_in_t 132 (by decide) hc0 (by assumption)) (fun H locs hW => ?_)
    have hW : Wd G A s.heap [(h 0, .inr (10, [.ref (h 1), .ref (h 2), .ref (h 3), .ref (h 4), .ref (h 5), .int X.2.2.2.2.2.1, .int X.2.2.2.2.2.2.1, .int X.2.2.2.2.2.2.2.1, .int X.2.2.2.2.2.2.2.2])), (h 1, .inl (G.2 0, 132, .inl (upd X.1 X.2.2.2.2.2.1.toNatClampNeg x0))), (h 2, .inl (G.2 0, 132, .inl (upd X.2.1 X.2.2.2.2.2.1.toNatClampNeg x1))), (h 3, .inl (G.2 0, 132, .inl X.2.2.1)), (h 4, .inl (G.2 0, 132, .inl X.2.2.2.1)), (h 5, .inl (G.2 0, 132, .inl X.2.2.2.2.1))] H locs := hW
    refine lv_aload_n hx hb d_Script_add_31 rfl (lv_at hl 0 rfl) ?_
    refine Wd.get hx hb hts hown hK hW 0 2 in_Script w_fl_Script_18 (by decide) d_Script_add_32 rfl rfl rfl ?_
    refine lv_aload_n hx hb d_Script_add_35 rfl (lv_at hl 0 rfl) ?_
    refine Wd.get hx hb hts hown hK hW 0 5 in_Script w_fl_Script_27 (by decide) d_Script_add_36 rfl rfl rfl ?_
    refine lv_iload_n hx hb d_Script_add_39 rfl (lv_at hl 3 rfl) ?_
    refine Wd.iast hx hb hK hW 3 d_Script_add_40 rfl (vp_in_t 132 (by decide) hc0 (by assumption)) (fun H locs hW => ?_)
    have hW : Wd G A s.heap [(h 0, .inr (10, [.ref (h 1), .ref (h 2), .ref (h 3), .ref (h 4), .ref (h 5), .int X.2.2.2.2.2.1, .int X.2.2.2.2.2.2.1, .int X.2.2.2.2.2.2.2.1, .int X.2.2.2.2.2.2.2.2])), (h 1, .inl (G.2 0, 132, .inl (upd X.1 X.2.2.2.2.2.1.toNatClampNeg x0))), (h 2, .inl (G.2 0, 132, .inl (upd X.2.1 X.2.2.2.2.2.1.toNatClampNeg x1))), (h 3, .inl (G.2 0, 132, .inl (upd X.2.2.1 X.2.2.2.2.2.1.toNatClampNeg x2))), (h 4, .inl (G.2 0, 132, .inl X.2.2.2.1)), (h 5, .inl (G.2 0, 132, .inl X.2.2.2.2.1))] H locs := hW
    refine lv_aload_n hx hb d_Script_add_41 rfl (lv_at hl 0 rfl) ?_
    refine Wd.get hx hb hts hown hK hW 0 3 in_Script w_fl_Script_21 (by decide) d_Script_add_42 rfl rfl rfl ?_
    refine lv_aload_n hx hb d_Script_add_45 rfl (lv_at hl 0 rfl) ?_
    refine Wd.get hx hb hts hown hK hW 0 5 in_Script w_fl_Script_27 (by decide) d_Script_add_46 rfl rfl rfl ?_
    refine lv_iload hx hb d_Script_add_49 (lv_at hl 4 rfl) ?_
    refine Wd.iast hx hb hK hW 4 d_Script_add_51 rfl (vp_in_t 132 (by decide) hc0 (by assumption)) (fun H locs hW => ?_)
    have hW : Wd G A s.heap [(h 0, .inr (10, [.ref (h 1), .ref (h 2), .ref (h 3), .ref (h 4), .ref (h 5), .int X.2.2.2.2.2.1, .int X.2.2.2.2.2.2.1, .int X.2.2.2.2.2.2.2.1, .int X.2.2.2.2.2.2.2.2])), (h 1, .inl (G.2 0, 132, .inl (upd X.1 X.2.2.2.2.2.1.toNatClampNeg x0))), (h 2, .inl (G.2 0, 132, .inl (upd X.2.1 X.2.2.2.2.2.1.toNatClampNeg x1))), (h 3, .inl (G.2 0, 132, .inl (upd X.2.2.1 X.2.2.2.2.2.1.toNatClampNeg x2))), (h 4, .inl (G.2 0, 132, .inl (upd X.2.2.2.1 X.2.2.2.2.2.1.toNatClampNeg x3))), (h 5, .inl (G.2 0, 132, .inl X.2.2.2.2.1))] H locs := hW
    refine lv_aload_n hx hb d_Script_add_52 rfl (lv_at hl 0 rfl) ?_
    refine Wd.get hx hb hts hown hK hW 0 4 in_Script w_fl_Script_24 (by decide) d_Script_add_53 rfl rfl rfl ?_
    refine lv_aload_n hx hb d_Script_add_56 rfl (lv_at hl 0 rfl) ?_
    refine Wd.get hx hb hts hown hK hW 0 5 in_Script w_fl_Script_27 (by decide) d_Script_add_57 rfl rfl rfl ?_
    refine lv_iload hx hb d_Script_add_60 (lv_at hl 5 rfl) ?_
    refine Wd.iast hx hb hK hW 5 d_Script_add_62 rfl (vp_in_t 132 (by decide) hc0 (by assumption)) (fun H locs hW => ?_)
    have hW : Wd G A s.heap [(h 0, .inr (10, [.ref (h 1), .ref (h 2), .ref (h 3), .ref (h 4), .ref (h 5), .int X.2.2.2.2.2.1, .int X.2.2.2.2.2.2.1, .int X.2.2.2.2.2.2.2.1, .int X.2.2.2.2.2.2.2.2])), (h 1, .inl (G.2 0, 132, .inl (upd X.1 X.2.2.2.2.2.1.toNatClampNeg x0))), (h 2, .inl (G.2 0, 132, .inl (upd X.2.1 X.2.2.2.2.2.1.toNatClampNeg x1))), (h 3, .inl (G.2 0, 132, .inl (upd X.2.2.1 X.2.2.2.2.2.1.toNatClampNeg x2))), (h 4, .inl (G.2 0, 132, .inl (upd X.2.2.2.1 X.2.2.2.2.2.1.toNatClampNeg x3))), (h 5, .inl (G.2 0, 132, .inl (upd X.2.2.2.2.1 X.2.2.2.2.2.1.toNatClampNeg x4)))] H locs := hW
    refine lv_aload_n hx hb d_Script_add_63 rfl (lv_at hl 0 rfl) ?_
    refine lv_dup hx hb d_Script_add_64 rfl ?_
    refine Wd.get hx hb hts hown hK hW 0 5 in_Script w_fl_Script_27 (by decide) d_Script_add_65 rfl rfl rfl ?_
    refine lv_iconst (v := 1) hx hb d_Script_add_68 (by decide) ?_
    refine lv_iadd hx hb d_Script_add_69 ?_
    refine Wd.put hx hb hts hown hK hW 0 5 in_Script t_Script_ok n_Script w_fl_Script_27 (by decide) d_Script_add_70 rfl rfl rfl rfl rfl (Nat.le_of_ble_eq_true rfl) (fun H locs hW => ?_)
    have hW : Wd G A s.heap [(h 0, .inr (10, [.ref (h 1), .ref (h 2), .ref (h 3), .ref (h 4), .ref (h 5), .int (X.2.2.2.2.2.1 + 1), .int X.2.2.2.2.2.2.1, .int X.2.2.2.2.2.2.2.1, .int X.2.2.2.2.2.2.2.2])), (h 1, .inl (G.2 0, 132, .inl (upd X.1 X.2.2.2.2.2.1.toNatClampNeg x0))), (h 2, .inl (G.2 0, 132, .inl (upd X.2.1 X.2.2.2.2.2.1.toNatClampNeg x1))), (h 3, .inl (G.2 0, 132, .inl (upd X.2.2.1 X.2.2.2.2.2.1.toNatClampNeg x2))), (h 4, .inl (G.2 0, 132, .inl (upd X.2.2.2.1 X.2.2.2.2.2.1.toNatClampNeg x3))), (h 5, .inl (G.2 0, 132, .inl (upd X.2.2.2.2.1 X.2.2.2.2.2.1.toNatClampNeg x4)))] H locs := hW
    exact Ct.vret hx hb hr hnl hW (by decide) (by decide) d_Script_add_73 (by unfold adS; rw [if_pos ht1]; exact ⟨rfl, rfl⟩)
  · exact Ct.vret hx hb hr hnl hW (by decide) (by decide) d_Script_add_10 (by unfold adS; rw [if_neg hf2]; exact ⟨rfl, rfl⟩)

theorem cb_Script_add (l : Launch) (G : Gt) (h : Nat → Nat) (X : ScT) (x0 : Int32) (x1 : Int32) (x2 : Int32) (x3 : Int32) (x4 : Int32) (hc0 : ¬ X.2.2.2.2.2.1 < 0) : Ct l G y_Script_add b_Script_add 6 none rm_Script_addX [.ref (h 0), .int x0, .int x1, .int x2, .int x3, .int x4] (scB G h X) 0 0 (fun v w' => v = none ∧ w' = scB G h (adS X x0 x1 x2 x3 x4)) := c_Script_addX l G h X x0 x1 x2 x3 x4 hc0
abbrev rm_Script_takeComparisonsX : Room := { frames := 0, cells := 0, slots := 0, locals := 0 }
set_option maxHeartbeats 4000000 in
set_option maxRecDepth 100000 in
theorem c_Script_takeComparisonsX (l : Launch) (G : Gt) (h : Nat → Nat) (X : ScT) (x : Int32) : Ct l G y_Script_takeComparisons b_Script_takeComparisons 2 (some .boolean) rm_Script_takeComparisonsX [.ref (h 0), .int x] [(h 0, .inr (10, [.ref (h 1), .ref (h 2), .ref (h 3), .ref (h 4), .ref (h 5), .int X.2.2.2.2.2.1, .int X.2.2.2.2.2.2.1, .int X.2.2.2.2.2.2.2.1, .int X.2.2.2.2.2.2.2.2])), (h 1, .inl (G.2 0, 132, .inl X.1)), (h 2, .inl (G.2 0, 132, .inl X.2.1)), (h 3, .inl (G.2 0, 132, .inl X.2.2.1)), (h 4, .inl (G.2 0, 132, .inl X.2.2.2.1)), (h 5, .inl (G.2 0, 132, .inl X.2.2.2.2.1))] 0 0 (fun v w' => v = some (.int ((tkC X x).1)) ∧ w' = [(h 0, .inr (10, [.ref (h 1), .ref (h 2), .ref (h 3), .ref (h 4), .ref (h 5), .int (((tkC X x).2).2.2.2.2.2.1), .int (((tkC X x).2).2.2.2.2.2.2.1), .int (((tkC X x).2).2.2.2.2.2.2.2.1), .int (((tkC X x).2).2.2.2.2.2.2.2.2)])), (h 1, .inl (G.2 0, 132, .inl (((tkC X x).2).1))), (h 2, .inl (G.2 0, 132, .inl (((tkC X x).2).2.1))), (h 3, .inl (G.2 0, 132, .inl (((tkC X x).2).2.2.1))), (h 4, .inl (G.2 0, 132, .inl (((tkC X x).2).2.2.2.1))), (h 5, .inl (G.2 0, 132, .inl (((tkC X x).2).2.2.2.2.1)))]) := by
  refine Ct.of (by decide) (Nat.le_of_ble_eq_true rfl) (fun p e s m args below meth c A ls H locs hx hb hml hr hnl hown hts hnm hK hA hl hW => ?_)
  have hl : lv_has ls 2 [(0, .ref (h 0)), (1, .int x)] := hl
  refine lv_aload_n hx hb d_Script_takeComparisons_0 rfl (lv_at hl 0 rfl) ?_
  refine Wd.get hx hb hts hown hK hW 0 6 in_Script w_fl_Script_31 (by decide) d_Script_takeComparisons_1 rfl rfl rfl ?_
  refine lv_iload_n hx hb d_Script_takeComparisons_4 rfl (lv_at hl 1 rfl) ?_
  refine lv_iadd hx hb d_Script_takeComparisons_5 ?_
  refine lv_bipush (v := 12) hx hb d_Script_takeComparisons_6 (by decide) ?_
  refine lv_icmp_le (tgt := 13) hx hb d_Script_takeComparisons_8 rfl (fun ht1 => ?_) (fun hf2 => ?_)
  · refine lv_aload_n hx hb d_Script_takeComparisons_13 rfl (lv_at hl 0 rfl) ?_
    refine lv_dup hx hb d_Script_takeComparisons_14 rfl ?_
    refine Wd.get hx hb hts hown hK hW 0 6 in_Script w_fl_Script_31 (by decide) d_Script_takeComparisons_15 rfl rfl rfl ?_
    refine lv_iload_n hx hb d_Script_takeComparisons_18 rfl (lv_at hl 1 rfl) ?_
    refine lv_iadd hx hb d_Script_takeComparisons_19 ?_
    refine Wd.put hx hb hts hown hK hW 0 6 in_Script t_Script_ok n_Script w_fl_Script_31 (by decide) d_Script_takeComparisons_20 rfl rfl rfl rfl rfl (Nat.le_of_ble_eq_true rfl) (fun H locs hW => ?_)
    have hW : Wd G A s.heap [(h 0, .inr (10, [.ref (h 1), .ref (h 2), .ref (h 3), .ref (h 4), .ref (h 5), .int X.2.2.2.2.2.1, .int (X.2.2.2.2.2.2.1 + x), .int X.2.2.2.2.2.2.2.1, .int X.2.2.2.2.2.2.2.2])), (h 1, .inl (G.2 0, 132, .inl X.1)), (h 2, .inl (G.2 0, 132, .inl X.2.1)), (h 3, .inl (G.2 0, 132, .inl X.2.2.1)), (h 4, .inl (G.2 0, 132, .inl X.2.2.2.1)), (h 5, .inl (G.2 0, 132, .inl X.2.2.2.2.1))] H locs := hW
    refine lv_iconst (v := 1) hx hb d_Script_takeComparisons_23 (by decide) ?_
    exact Ct.zret hx hb hr hnl hW (by decide) (by decide) d_Script_takeComparisons_24 (by decide) (by unfold tkC; rw [if_pos ht1]; exact ⟨rfl, rfl⟩)
  · refine lv_iconst (v := 0) hx hb d_Script_takeComparisons_11 (by decide) ?_
    exact Ct.zret hx hb hr hnl hW (by decide) (by decide) d_Script_takeComparisons_12 (by decide) (by unfold tkC; rw [if_neg hf2]; exact ⟨rfl, rfl⟩)

theorem cb_Script_takeComparisons (l : Launch) (G : Gt) (h : Nat → Nat) (X : ScT) (x : Int32) : Ct l G y_Script_takeComparisons b_Script_takeComparisons 2 (some .boolean) rm_Script_takeComparisonsX [.ref (h 0), .int x] (scB G h X) 0 0 (fun v w' => v = some (.int ((tkC X x).1)) ∧ w' = scB G h ((tkC X x).2)) := c_Script_takeComparisonsX l G h X x 
abbrev rm_Script_takeOpenX : Room := { frames := 0, cells := 0, slots := 0, locals := 0 }
set_option maxHeartbeats 4000000 in
set_option maxRecDepth 100000 in
theorem c_Script_takeOpenX (l : Launch) (G : Gt) (h : Nat → Nat) (X : ScT) : Ct l G y_Script_takeOpen b_Script_takeOpen 1 (some .boolean) rm_Script_takeOpenX [.ref (h 0)] [(h 0, .inr (10, [.ref (h 1), .ref (h 2), .ref (h 3), .ref (h 4), .ref (h 5), .int X.2.2.2.2.2.1, .int X.2.2.2.2.2.2.1, .int X.2.2.2.2.2.2.2.1, .int X.2.2.2.2.2.2.2.2])), (h 1, .inl (G.2 0, 132, .inl X.1)), (h 2, .inl (G.2 0, 132, .inl X.2.1)), (h 3, .inl (G.2 0, 132, .inl X.2.2.1)), (h 4, .inl (G.2 0, 132, .inl X.2.2.2.1)), (h 5, .inl (G.2 0, 132, .inl X.2.2.2.2.1))] 0 0 (fun v w' => v = some (.int ((tkO X).1)) ∧ w' = [(h 0, .inr (10, [.ref (h 1), .ref (h 2), .ref (h 3), .ref (h 4), .ref (h 5), .int (((tkO X).2).2.2.2.2.2.1), .int (((tkO X).2).2.2.2.2.2.2.1), .int (((tkO X).2).2.2.2.2.2.2.2.1), .int (((tkO X).2).2.2.2.2.2.2.2.2)])), (h 1, .inl (G.2 0, 132, .inl (((tkO X).2).1))), (h 2, .inl (G.2 0, 132, .inl (((tkO X).2).2.1))), (h 3, .inl (G.2 0, 132, .inl (((tkO X).2).2.2.1))), (h 4, .inl (G.2 0, 132, .inl (((tkO X).2).2.2.2.1))), (h 5, .inl (G.2 0, 132, .inl (((tkO X).2).2.2.2.2.1)))]) := by
  refine Ct.of (by decide) (Nat.le_of_ble_eq_true rfl) (fun p e s m args below meth c A ls H locs hx hb hml hr hnl hown hts hnm hK hA hl hW => ?_)
  have hl : lv_has ls 1 [(0, .ref (h 0))] := hl
  refine lv_aload_n hx hb d_Script_takeOpen_0 rfl (lv_at hl 0 rfl) ?_
  refine Wd.get hx hb hts hown hK hW 0 7 in_Script w_fl_Script_34 (by decide) d_Script_takeOpen_1 rfl rfl rfl ?_
  refine lv_bipush (v := 16) hx hb d_Script_takeOpen_4 (by decide) ?_
  refine lv_icmp_lt (tgt := 11) hx hb d_Script_takeOpen_6 rfl (fun ht1 => ?_) (fun hf2 => ?_)
  · refine lv_aload_n hx hb d_Script_takeOpen_11 rfl (lv_at hl 0 rfl) ?_
    refine lv_dup hx hb d_Script_takeOpen_12 rfl ?_
    refine Wd.get hx hb hts hown hK hW 0 7 in_Script w_fl_Script_34 (by decide) d_Script_takeOpen_13 rfl rfl rfl ?_
    refine lv_iconst (v := 1) hx hb d_Script_takeOpen_16 (by decide) ?_
    refine lv_iadd hx hb d_Script_takeOpen_17 ?_
    refine Wd.put hx hb hts hown hK hW 0 7 in_Script t_Script_ok n_Script w_fl_Script_34 (by decide) d_Script_takeOpen_18 rfl rfl rfl rfl rfl (Nat.le_of_ble_eq_true rfl) (fun H locs hW => ?_)
    have hW : Wd G A s.heap [(h 0, .inr (10, [.ref (h 1), .ref (h 2), .ref (h 3), .ref (h 4), .ref (h 5), .int X.2.2.2.2.2.1, .int X.2.2.2.2.2.2.1, .int (X.2.2.2.2.2.2.2.1 + 1), .int X.2.2.2.2.2.2.2.2])), (h 1, .inl (G.2 0, 132, .inl X.1)), (h 2, .inl (G.2 0, 132, .inl X.2.1)), (h 3, .inl (G.2 0, 132, .inl X.2.2.1)), (h 4, .inl (G.2 0, 132, .inl X.2.2.2.1)), (h 5, .inl (G.2 0, 132, .inl X.2.2.2.2.1))] H locs := hW
    refine lv_iconst (v := 1) hx hb d_Script_takeOpen_21 (by decide) ?_
    exact Ct.zret hx hb hr hnl hW (by decide) (by decide) d_Script_takeOpen_22 (by decide) (by unfold tkO; rw [if_pos ht1]; exact ⟨rfl, rfl⟩)
  · refine lv_iconst (v := 0) hx hb d_Script_takeOpen_9 (by decide) ?_
    exact Ct.zret hx hb hr hnl hW (by decide) (by decide) d_Script_takeOpen_10 (by decide) (by unfold tkO; rw [if_neg hf2]; exact ⟨rfl, rfl⟩)

theorem cb_Script_takeOpen (l : Launch) (G : Gt) (h : Nat → Nat) (X : ScT) : Ct l G y_Script_takeOpen b_Script_takeOpen 1 (some .boolean) rm_Script_takeOpenX [.ref (h 0)] (scB G h X) 0 0 (fun v w' => v = some (.int ((tkO X).1)) ∧ w' = scB G h ((tkO X).2)) := c_Script_takeOpenX l G h X  
abbrev rm_Script_nameX : Room := { frames := 0, cells := 0, slots := 0, locals := 0 }
set_option maxHeartbeats 4000000 in
set_option maxRecDepth 100000 in
theorem c_Script_nameX (l : Launch) (G : Gt) (h : Nat → Nat) (X : ScT) (x : Int32) : Ct l G y_Script_name b_Script_name 2 none rm_Script_nameX [.ref (h 0), .int x] [(h 0, .inr (10, [.ref (h 1), .ref (h 2), .ref (h 3), .ref (h 4), .ref (h 5), .int X.2.2.2.2.2.1, .int X.2.2.2.2.2.2.1, .int X.2.2.2.2.2.2.2.1, .int X.2.2.2.2.2.2.2.2])), (h 1, .inl (G.2 0, 132, .inl X.1)), (h 2, .inl (G.2 0, 132, .inl X.2.1)), (h 3, .inl (G.2 0, 132, .inl X.2.2.1)), (h 4, .inl (G.2 0, 132, .inl X.2.2.2.1)), (h 5, .inl (G.2 0, 132, .inl X.2.2.2.2.1))] 0 0 (fun v w' => v = none ∧ w' = [(h 0, .inr (10, [.ref (h 1), .ref (h 2), .ref (h 3), .ref (h 4), .ref (h 5), .int ((nmS X x).2.2.2.2.2.1), .int ((nmS X x).2.2.2.2.2.2.1), .int ((nmS X x).2.2.2.2.2.2.2.1), .int ((nmS X x).2.2.2.2.2.2.2.2)])), (h 1, .inl (G.2 0, 132, .inl ((nmS X x).1))), (h 2, .inl (G.2 0, 132, .inl ((nmS X x).2.1))), (h 3, .inl (G.2 0, 132, .inl ((nmS X x).2.2.1))), (h 4, .inl (G.2 0, 132, .inl ((nmS X x).2.2.2.1))), (h 5, .inl (G.2 0, 132, .inl ((nmS X x).2.2.2.2.1)))]) := by
  refine Ct.of (by decide) (Nat.le_of_ble_eq_true rfl) (fun p e s m args below meth c A ls H locs hx hb hml hr hnl hown hts hnm hK hA hl hW => ?_)
  have hl : lv_has ls 2 [(0, .ref (h 0)), (1, .int x)] := hl
  refine lv_aload_n hx hb d_Script_name_0 rfl (lv_at hl 0 rfl) ?_
  refine lv_dup hx hb d_Script_name_1 rfl ?_
  refine Wd.get hx hb hts hown hK hW 0 8 in_Script w_fl_Script_37 (by decide) d_Script_name_2 rfl rfl rfl ?_
  refine lv_iconst (v := 1) hx hb d_Script_name_5 (by decide) ?_
  refine lv_iload_n hx hb d_Script_name_6 rfl (lv_at hl 1 rfl) ?_
  refine lv_ishl hx hb d_Script_name_7 ?_
  refine lv_ior hx hb d_Script_name_8 ?_
  refine Wd.put hx hb hts hown hK hW 0 8 in_Script t_Script_ok n_Script w_fl_Script_37 (by decide) d_Script_name_9 rfl rfl rfl rfl rfl (Nat.le_of_ble_eq_true rfl) (fun H locs hW => ?_)
  have hW : Wd G A s.heap [(h 0, .inr (10, [.ref (h 1), .ref (h 2), .ref (h 3), .ref (h 4), .ref (h 5), .int X.2.2.2.2.2.1, .int X.2.2.2.2.2.2.1, .int X.2.2.2.2.2.2.2.1, .int (X.2.2.2.2.2.2.2.2 ||| (1 <<< (x &&& 31)))])), (h 1, .inl (G.2 0, 132, .inl X.1)), (h 2, .inl (G.2 0, 132, .inl X.2.1)), (h 3, .inl (G.2 0, 132, .inl X.2.2.1)), (h 4, .inl (G.2 0, 132, .inl X.2.2.2.1)), (h 5, .inl (G.2 0, 132, .inl X.2.2.2.2.1))] H locs := hW
  exact Ct.vret hx hb hr hnl hW (by decide) (by decide) d_Script_name_12 ⟨rfl, rfl⟩

theorem cb_Script_name (l : Launch) (G : Gt) (h : Nat → Nat) (X : ScT) (x : Int32) : Ct l G y_Script_name b_Script_name 2 none rm_Script_nameX [.ref (h 0), .int x] (scB G h X) 0 0 (fun v w' => v = none ∧ w' = scB G h (nmS X x)) := c_Script_nameX l G h X x 
abbrev rm_Script_clearX : Room := { frames := 0, cells := 0, slots := 0, locals := 0 }
set_option maxHeartbeats 4000000 in
set_option maxRecDepth 100000 in
theorem c_Script_clearX (l : Launch) (G : Gt) (h : Nat → Nat) (X : ScT) : Ct l G y_Script_clear b_Script_clear 1 none rm_Script_clearX [.ref (h 0)] [(h 0, .inr (10, [.ref (h 1), .ref (h 2), .ref (h 3), .ref (h 4), .ref (h 5), .int X.2.2.2.2.2.1, .int X.2.2.2.2.2.2.1, .int X.2.2.2.2.2.2.2.1, .int X.2.2.2.2.2.2.2.2])), (h 1, .inl (G.2 0, 132, .inl X.1)), (h 2, .inl (G.2 0, 132, .inl X.2.1)), (h 3, .inl (G.2 0, 132, .inl X.2.2.1)), (h 4, .inl (G.2 0, 132, .inl X.2.2.2.1)), (h 5, .inl (G.2 0, 132, .inl X.2.2.2.2.1))] 0 0 (fun v w' => v = none ∧ w' = [(h 0, .inr (10, [.ref (h 1), .ref (h 2), .ref (h 3), .ref (h 4), .ref (h 5), .int ((clS X).2.2.2.2.2.1), .int ((clS X).2.2.2.2.2.2.1), .int ((clS X).2.2.2.2.2.2.2.1), .int ((clS X).2.2.2.2.2.2.2.2)])), (h 1, .inl (G.2 0, 132, .inl ((clS X).1))), (h 2, .inl (G.2 0, 132, .inl ((clS X).2.1))), (h 3, .inl (G.2 0, 132, .inl ((clS X).2.2.1))), (h 4, .inl (G.2 0, 132, .inl ((clS X).2.2.2.1))), (h 5, .inl (G.2 0, 132, .inl ((clS X).2.2.2.2.1)))]) := by
  refine Ct.of (by decide) (Nat.le_of_ble_eq_true rfl) (fun p e s m args below meth c A ls H locs hx hb hml hr hnl hown hts hnm hK hA hl hW => ?_)
  have hl : lv_has ls 1 [(0, .ref (h 0))] := hl
  refine lv_aload_n hx hb d_Script_clear_0 rfl (lv_at hl 0 rfl) ?_
  refine lv_iconst (v := 0) hx hb d_Script_clear_1 (by decide) ?_
  refine Wd.put hx hb hts hown hK hW 0 5 in_Script t_Script_ok n_Script w_fl_Script_27 (by decide) d_Script_clear_2 rfl rfl rfl rfl rfl (Nat.le_of_ble_eq_true rfl) (fun H locs hW => ?_)
  have hW : Wd G A s.heap [(h 0, .inr (10, [.ref (h 1), .ref (h 2), .ref (h 3), .ref (h 4), .ref (h 5), .int 0, .int X.2.2.2.2.2.2.1, .int X.2.2.2.2.2.2.2.1, .int X.2.2.2.2.2.2.2.2])), (h 1, .inl (G.2 0, 132, .inl X.1)), (h 2, .inl (G.2 0, 132, .inl X.2.1)), (h 3, .inl (G.2 0, 132, .inl X.2.2.1)), (h 4, .inl (G.2 0, 132, .inl X.2.2.2.1)), (h 5, .inl (G.2 0, 132, .inl X.2.2.2.2.1))] H locs := hW
  refine lv_aload_n hx hb d_Script_clear_5 rfl (lv_at hl 0 rfl) ?_
  refine lv_iconst (v := 0) hx hb d_Script_clear_6 (by decide) ?_
  refine Wd.put hx hb hts hown hK hW 0 6 in_Script t_Script_ok n_Script w_fl_Script_31 (by decide) d_Script_clear_7 rfl rfl rfl rfl rfl (Nat.le_of_ble_eq_true rfl) (fun H locs hW => ?_)
  have hW : Wd G A s.heap [(h 0, .inr (10, [.ref (h 1), .ref (h 2), .ref (h 3), .ref (h 4), .ref (h 5), .int 0, .int 0, .int X.2.2.2.2.2.2.2.1, .int X.2.2.2.2.2.2.2.2])), (h 1, .inl (G.2 0, 132, .inl X.1)), (h 2, .inl (G.2 0, 132, .inl X.2.1)), (h 3, .inl (G.2 0, 132, .inl X.2.2.1)), (h 4, .inl (G.2 0, 132, .inl X.2.2.2.1)), (h 5, .inl (G.2 0, 132, .inl X.2.2.2.2.1))] H locs := hW
  refine lv_aload_n hx hb d_Script_clear_10 rfl (lv_at hl 0 rfl) ?_
  refine lv_iconst (v := 0) hx hb d_Script_clear_11 (by decide) ?_
  refine Wd.put hx hb hts hown hK hW 0 7 in_Script t_Script_ok n_Script w_fl_Script_34 (by decide) d_Script_clear_12 rfl rfl rfl rfl rfl (Nat.le_of_ble_eq_true rfl) (fun H locs hW => ?_)
  have hW : Wd G A s.heap [(h 0, .inr (10, [.ref (h 1), .ref (h 2), .ref (h 3), .ref (h 4), .ref (h 5), .int 0, .int 0, .int 0, .int X.2.2.2.2.2.2.2.2])), (h 1, .inl (G.2 0, 132, .inl X.1)), (h 2, .inl (G.2 0, 132, .inl X.2.1)), (h 3, .inl (G.2 0, 132, .inl X.2.2.1)), (h 4, .inl (G.2 0, 132, .inl X.2.2.2.1)), (h 5, .inl (G.2 0, 132, .inl X.2.2.2.2.1))] H locs := hW
  refine lv_aload_n hx hb d_Script_clear_15 rfl (lv_at hl 0 rfl) ?_
  refine lv_iconst (v := 0) hx hb d_Script_clear_16 (by decide) ?_
  refine Wd.put hx hb hts hown hK hW 0 8 in_Script t_Script_ok n_Script w_fl_Script_37 (by decide) d_Script_clear_17 rfl rfl rfl rfl rfl (Nat.le_of_ble_eq_true rfl) (fun H locs hW => ?_)
  have hW : Wd G A s.heap [(h 0, .inr (10, [.ref (h 1), .ref (h 2), .ref (h 3), .ref (h 4), .ref (h 5), .int 0, .int 0, .int 0, .int 0])), (h 1, .inl (G.2 0, 132, .inl X.1)), (h 2, .inl (G.2 0, 132, .inl X.2.1)), (h 3, .inl (G.2 0, 132, .inl X.2.2.1)), (h 4, .inl (G.2 0, 132, .inl X.2.2.2.1)), (h 5, .inl (G.2 0, 132, .inl X.2.2.2.2.1))] H locs := hW
  exact Ct.vret hx hb hr hnl hW (by decide) (by decide) d_Script_clear_20 ⟨rfl, rfl⟩

theorem cb_Script_clear (l : Launch) (G : Gt) (h : Nat → Nat) (X : ScT) : Ct l G y_Script_clear b_Script_clear 1 none rm_Script_clearX [.ref (h 0)] (scB G h X) 0 0 (fun v w' => v = none ∧ w' = scB G h (clS X)) := c_Script_clearX l G h X  
abbrev rm_cb_Script_addSums : Room := { frames := 1, cells := 0, slots := 0, locals := 25 }
set_option maxHeartbeats 4000000 in
set_option maxRecDepth 100000 in
theorem cb_Script_addSums (l : Launch) (G : Gt) (h : Nat → Nat) (X : ScT) (a : Nat) (z : Nat) (haz : a ≤ z) (hz : z < 1000) (hc0 : ¬ X.2.2.2.2.2.1 < 0) : Ct l G y_Script_addSums b_Script_addSums 4 none rm_cb_Script_addSums [.ref (h 0), .int (nI a), .int (nI z)] (bj [scB G h X]) 0 0 (fun v w' => v = none ∧ w' = (bj [scB G h (smI (z - a) (a + 1) X)])) := by
  refine Ct.of (by decide) (Nat.le_of_ble_eq_true rfl) (fun p e s m args below meth c A ls H locs hx hb hml hr hnl hown hts hnm hK hA hl hW => ?_)
  have hl : lv_has ls 4 [(0, .ref (h 0)), (1, .int (nI a)), (2, .int (nI z))] := hl
  refine lv_iload_n hx hb d_Script_addSums_0 rfl (lv_at hl 1 rfl) ?_
  refine lv_iconst (v := 1) hx hb d_Script_addSums_1 (by decide) ?_
  refine lv_iadd hx hb d_Script_addSums_2 ?_
  refine lv_topi (fun cz ez => ?_)
  obtain rfl : cz = nI (a + 1) := ez.trans (nI_succ a).symm
  refine lv_istore_n (lv' := [(3, .int (nI (a + 1))), (0, .ref (h 0)), (1, .int (nI a)), (2, .int (nI z))]) hx hb d_Script_addSums_3 rfl hl (by decide) rfl (fun ls hl => ?_)
  have loop4 : ∀ (u : Nat) (r : Nat) (Y : ScT) (ls : Array Slot) (H : Heap) (locs : List Loc), a + 1 ≤ r → r ≤ z + 1 → ¬ Y.2.2.2.2.2.1 < 0 → smI (z + 1 - r) r Y = smI (z - a) (a + 1) X → (z + 1 - r) < u → lv_has ls 4 [(0, .ref (h 0)), (2, .int (nI z)), (3, .int (nI r))] → Wd G A s.heap (bj [scB G h Y]) H locs → W p l e rm_cb_Script_addSums s m args below meth c H locs 0 0 (MQ below (Qcc G (fun v w' => v = none ∧ w' = (bj [scB G h (smI (z - a) (a + 1) X)])) A) args s 0 0 A) (F0 m 4 ls []) := by
    intro u
    induction u with
    | zero => intro r Y ls H locs hr1 hr2 hcY hg hu; exact absurd hu (Nat.not_lt_zero _)
    | succ u ih4 =>
      intro r Y ls H locs hr1 hr2 hcY hg hu4 hl hW
      refine lv_iload_n hx hb d_Script_addSums_4 rfl (lv_at hl 2 rfl) ?_
      refine lv_iload_n hx hb d_Script_addSums_5 rfl (lv_at hl 1 rfl) ?_
      refine lv_icmp_gt (tgt := 26) hx hb d_Script_addSums_6 rfl (fun ht1 => ?_) (fun hf2 => ?_)
      · have hrz : r = z + 1 := by have := (nI_ltI (a := z) (b := r) (by omega) (by omega)).mp ht1; omega
        exact Ct.vret hx hb hr hnl hW (by decide) (by decide) d_Script_addSums_26 (by subst hrz; rw [← hg, Nat.sub_self]; exact ⟨rfl, rfl⟩)
      · have hrz : r ≤ z := by apply Nat.le_of_not_lt; intro q; exact hf2 (nI_lt q (by omega))
        refine lv_aload_n hx hb d_Script_addSums_9 rfl (lv_at hl 0 rfl) ?_
        refine lv_iconst (v := 1) hx hb d_Script_addSums_10 (by decide) ?_
        refine lv_iload_n hx hb d_Script_addSums_11 rfl (lv_at hl 2 rfl) ?_
        refine lv_iload_n hx hb d_Script_addSums_12 rfl (lv_at hl 2 rfl) ?_
        refine lv_iconst (v := 1) hx hb d_Script_addSums_13 (by decide) ?_
        refine lv_isub hx hb d_Script_addSums_14 ?_
        refine lv_iload_n hx hb d_Script_addSums_15 rfl (lv_at hl 2 rfl) ?_
        refine lv_iconst (v := 0) hx hb d_Script_addSums_16 (by decide) ?_
        refine Ct.callVB (As := [.int 1, .int (nI r), .int ((nI r) - 1), .int (nI r), .int 0]) (rest := []) (wr := bj []) hx hb hml hown hts hK hA hl.1 hW (bl_pick (bs := [scB G h Y]) (rs := []) (Bs := [scB G h Y]) [0] (show ([0] : List Nat).Perm (List.range 1) by decide) rfl) (cb_Script_add l G h Y (1 : Int32) (nI r) ((nI r) - 1) (nI r) (0 : Int32) hcY) (cwV 5 hts (good_V w_ml_Script_46 w_im_Script_add w_se_Script_add w_ini_Script w_code_Script_add) rfl rfl rfl yd_Script_add ⟨by decide, by decide⟩) (ci := 10) (r := vr_Script) rfl rfl rfl rfl rfl (Nat.le_of_ble_eq_true rfl) d_Script_addSums_17 ⟨by decide, by decide⟩ (fun v w' hp => by obtain ⟨-, rfl⟩ := hp; exact Nat.le_of_ble_eq_true rfl) (fun v w' H locs hp hW => ?_)
        obtain ⟨rfl, rfl⟩ := hp
        have hW := Wd.blk (rs := []) (bs := [scB G h (adS Y (1 : Int32) (nI r) ((nI r) - 1) (nI r) (0 : Int32))]) (Bs := [scB G h (adS Y (1 : Int32) (nI r) ((nI r) - 1) (nI r) (0 : Int32))]) hW [0] (show ([0] : List Nat).Perm (List.range 1) by decide) rfl
        refine W.eq (g2 := F0 m 20 ls []) rfl ?_
        refine lv_iinc (k := 2) (v := nI (r + 1)) (lv' := [(3, .int (nI (r + 1))), (0, .ref (h 0)), (2, .int (nI z))]) hx hb d_Script_addSums_20 hl rfl (nI_succ r).symm (by decide) rfl (fun ls hl => ?_)
        refine lv_goto (tgt := 4) hx hb d_Script_addSums_23 rfl ?_
        exact ih4 (r + 1) (adS Y 1 (nI r) (nI r - 1) (nI r) 0) ls H locs (by omega) (by omega) (adS_c0 hcY) (by rw [sm_s (by omega)] at hg; rw [show z + 1 - (r + 1) = z + 1 - r - 1 by omega]; exact hg) (by omega) (lv_sub hl [1, 2, 0] rfl) hW
  exact loop4 (_ + 1) (a + 1) X ls H locs (Nat.le_refl _) (by omega) hc0 (by rw [show z + 1 - (a + 1) = z - a by omega]) (Nat.lt_succ_self _) (lv_sub hl [1, 3, 0] rfl) hW

theorem nI_dec {t : Nat} (h : 0 < t) : nI t + (-1) = nI (t - 1) := by
  obtain ⟨u, rfl⟩ : ∃ u, t = u + 1 := ⟨t - 1, by omega⟩
  rw [nI_succ, Int32.add_assoc, show (1 : Int32) + -1 = 0 by decide, Int32.add_zero]
  rfl
abbrev rm_cb_Script_addSort : Room := { frames := 1, cells := 0, slots := 0, locals := 25 }
set_option maxHeartbeats 4000000 in
set_option maxRecDepth 100000 in
theorem cb_Script_addSort (l : Launch) (G : Gt) (h : Nat → Nat) (X : ScT) (a : Nat) (z : Nat) (haz : a ≤ z) (hz : z < 1000) (hc0 : ¬ X.2.2.2.2.2.1 < 0) : Ct l G y_Script_addSort b_Script_addSort 5 none rm_cb_Script_addSort [.ref (h 0), .int (nI a), .int (nI z)] (bj [scB G h X]) 0 0 (fun v w' => v = none ∧ w' = (bj [scB G h (swO a (z - a) X)])) := by
  refine Ct.of (by decide) (Nat.le_of_ble_eq_true rfl) (fun p e s m args below meth c A ls H locs hx hb hml hr hnl hown hts hnm hK hA hl hW => ?_)
  have hl : lv_has ls 5 [(0, .ref (h 0)), (1, .int (nI a)), (2, .int (nI z))] := hl
  refine lv_iload_n hx hb d_Script_addSort_0 rfl (lv_at hl 2 rfl) ?_
  refine lv_istore_n (lv' := [(3, .int (nI z)), (0, .ref (h 0)), (1, .int (nI a)), (2, .int (nI z))]) hx hb d_Script_addSort_1 rfl hl (by decide) rfl (fun ls hl => ?_)
  have loop2 : ∀ (u : Nat) (t : Nat) (Z : ScT) (ls : Array Slot) (H : Heap) (locs : List Loc), a ≤ t → t ≤ z → ¬ Z.2.2.2.2.2.1 < 0 → swO a (t - a) Z = swO a (z - a) X → (t - a) < u → lv_has ls 5 [(0, .ref (h 0)), (1, .int (nI a)), (3, .int (nI t))] → Wd G A s.heap (bj [scB G h Z]) H locs → W p l e rm_cb_Script_addSort s m args below meth c H locs 0 0 (MQ below (Qcc G (fun v w' => v = none ∧ w' = (bj [scB G h (swO a (z - a) X)])) A) args s 0 0 A) (F0 m 2 ls []) := by
    intro u
    induction u with
    | zero => intro t Z ls H locs ht1 ht2 hcZ hg hu; exact absurd hu (Nat.not_lt_zero _)
    | succ u ih2 =>
      intro t Z ls H locs ht1 ht2 hcZ hg hu2 hl hW
      refine lv_iload_n hx hb d_Script_addSort_2 rfl (lv_at hl 2 rfl) ?_
      refine lv_iload_n hx hb d_Script_addSort_3 rfl (lv_at hl 1 rfl) ?_
      refine lv_icmp_le (tgt := 43) hx hb d_Script_addSort_4 rfl (fun ht1 => ?_) (fun hf2 => ?_)
      · have hta : t = a := by have := (nI_leI (a := t) (b := a) (by omega) (by omega)).mp ht1; omega
        exact Ct.vret hx hb hr hnl hW (by decide) (by decide) d_Script_addSort_43 (by subst hta; rw [← hg, Nat.sub_self]; exact ⟨rfl, rfl⟩)
      · have hta : a < t := by apply Nat.lt_of_not_le; intro q; exact hf2 (nI_le q (by omega))
        refine lv_iload_n hx hb d_Script_addSort_7 rfl (lv_at hl 1 rfl) ?_
        refine lv_istore (lv' := [(4, .int (nI a)), (0, .ref (h 0)), (1, .int (nI a)), (3, .int (nI t))]) hx hb d_Script_addSort_8 hl (by decide) rfl (fun ls hl => ?_)
        have loop10 : ∀ (u : Nat) (r : Nat) (Y : ScT) (ls : Array Slot) (H : Heap) (locs : List Loc), a ≤ r → r ≤ t → ¬ Y.2.2.2.2.2.1 < 0 → swI (t - r) r Y = swI (t - a) a Z → (t - r) < u → lv_has ls 5 [(0, .ref (h 0)), (1, .int (nI a)), (3, .int (nI t)), (4, .int (nI r))] → Wd G A s.heap (bj [scB G h Y]) H locs → W p l e rm_cb_Script_addSort s m args below meth c H locs 0 0 (MQ below (Qcc G (fun v w' => v = none ∧ w' = (bj [scB G h (swO a (z - a) X)])) A) args s 0 0 A) (F0 m 10 ls []) := by
          intro u
          induction u with
          | zero => intro r Y ls H locs hr1 hr2 hcY hgi hu; exact absurd hu (Nat.not_lt_zero _)
          | succ u ih10 =>
            intro r Y ls H locs hr1 hr2 hcY hgi hu10 hl hW
            refine lv_iload hx hb d_Script_addSort_10 (lv_at hl 3 rfl) ?_
            refine lv_iload_n hx hb d_Script_addSort_12 rfl (lv_at hl 2 rfl) ?_
            refine lv_icmp_ge (tgt := 37) hx hb d_Script_addSort_13 rfl (fun ht3 => ?_) (fun hf4 => ?_)
            · have hrt : r = t := by have := (nI_leI (a := t) (b := r) (by omega) (by omega)).mp ht3; omega
              refine lv_iinc (k := 2) (v := nI (t - 1)) (lv' := [(3, .int (nI (t - 1))), (0, .ref (h 0)), (1, .int (nI a)), (4, .int (nI r))]) hx hb d_Script_addSort_37 hl rfl (nI_dec (by omega)) (by decide) rfl (fun ls hl => ?_)
              refine lv_goto (tgt := 2) hx hb d_Script_addSort_40 rfl ?_
              have hY : Y = swI (t - a) a Z := by
                rw [← hgi, show t - r = 0 by omega]
                try rfl
              exact ih2 (t - 1) Y ls H locs (by omega) (by omega) hcY (by rw [swo_s (by omega)] at hg; rw [hY, show t - 1 - a = t - a - 1 by omega]; exact hg) (by omega) (lv_sub hl [1, 2, 0] rfl) hW
            · have hrt : r < t := by apply Nat.lt_of_not_le; intro q; exact hf4 (nI_le q (by omega))
              refine lv_aload_n hx hb d_Script_addSort_16 rfl (lv_at hl 0 rfl) ?_
              refine lv_bipush (v := 6) hx hb d_Script_addSort_17 (by decide) ?_
              refine lv_iload hx hb d_Script_addSort_19 (lv_at hl 3 rfl) ?_
              refine lv_iload hx hb d_Script_addSort_21 (lv_at hl 3 rfl) ?_
              refine lv_iload hx hb d_Script_addSort_23 (lv_at hl 3 rfl) ?_
              refine lv_iconst (v := 1) hx hb d_Script_addSort_25 (by decide) ?_
              refine lv_iadd hx hb d_Script_addSort_26 ?_
              refine lv_topi (fun cz ez => ?_)
              obtain rfl : cz = nI (r + 1) := ez.trans (nI_succ r).symm
              refine lv_iconst (v := 0) hx hb d_Script_addSort_27 (by decide) ?_
              refine Ct.callVB (As := [.int 6, .int (nI r), .int (nI r), .int (nI (r + 1)), .int 0]) (rest := []) (wr := bj []) hx hb hml hown hts hK hA hl.1 hW (bl_pick (bs := [scB G h Y]) (rs := []) (Bs := [scB G h Y]) [0] (show ([0] : List Nat).Perm (List.range 1) by decide) rfl) (cb_Script_add l G h Y (6 : Int32) (nI r) (nI r) (nI (r + 1)) (0 : Int32) hcY) (cwV 5 hts (good_V w_ml_Script_46 w_im_Script_add w_se_Script_add w_ini_Script w_code_Script_add) rfl rfl rfl yd_Script_add ⟨by decide, by decide⟩) (ci := 10) (r := vr_Script) rfl rfl rfl rfl rfl (Nat.le_of_ble_eq_true rfl) d_Script_addSort_28 ⟨by decide, by decide⟩ (fun v w' hp => by obtain ⟨-, rfl⟩ := hp; exact Nat.le_of_ble_eq_true rfl) (fun v w' H locs hp hW => ?_)
              obtain ⟨rfl, rfl⟩ := hp
              have hW := Wd.blk (rs := []) (bs := [scB G h (adS Y (6 : Int32) (nI r) (nI r) (nI (r + 1)) (0 : Int32))]) (Bs := [scB G h (adS Y (6 : Int32) (nI r) (nI r) (nI (r + 1)) (0 : Int32))]) hW [0] (show ([0] : List Nat).Perm (List.range 1) by decide) rfl
              refine W.eq (g2 := F0 m 31 ls []) rfl ?_
              refine lv_iinc (k := 3) (v := nI (r + 1)) (lv' := [(4, .int (nI (r + 1))), (0, .ref (h 0)), (1, .int (nI a)), (3, .int (nI t))]) hx hb d_Script_addSort_31 hl rfl (nI_succ r).symm (by decide) rfl (fun ls hl => ?_)
              refine lv_goto (tgt := 10) hx hb d_Script_addSort_34 rfl ?_
              exact ih10 (r + 1) (adS Y 6 (nI r) (nI r) (nI (r + 1)) 0) ls H locs (by omega) (by omega) (adS_c0 hcY) (by rw [sw_s (by omega)] at hgi; rw [show t - (r + 1) = t - r - 1 by omega]; exact hgi) (by omega) (lv_sub hl [1, 2, 3, 0] rfl) hW
        exact loop10 (_ + 1) a Z ls H locs (Nat.le_refl _) ht1 hcZ rfl (Nat.lt_succ_self _) (lv_sub hl [1, 2, 3, 0] rfl) hW
  exact loop2 (_ + 1) z X ls H locs haz (Nat.le_refl _) hc0 rfl (Nat.lt_succ_self _) (lv_sub hl [1, 2, 0] rfl) hW

