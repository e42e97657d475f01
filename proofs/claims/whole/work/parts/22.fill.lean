theorem d_JArrays_fill_0 : decode b_JArrays_fill 0 = .ok (.iconst 0, 1) := by decide +kernel
theorem d_JArrays_fill_1 : decode b_JArrays_fill 1 = .ok (.istore_n 2, 1) := by decide +kernel
theorem d_JArrays_fill_2 : decode b_JArrays_fill 2 = .ok (.aload_n 0, 1) := by decide +kernel
theorem d_JArrays_fill_3 : decode b_JArrays_fill 3 = .ok (.arraylength, 1) := by decide +kernel
theorem d_JArrays_fill_4 : decode b_JArrays_fill 4 = .ok (.istore_n 3, 1) := by decide +kernel
theorem d_JArrays_fill_5 : decode b_JArrays_fill 5 = .ok (.iload_n 2, 1) := by decide +kernel
theorem d_JArrays_fill_6 : decode b_JArrays_fill 6 = .ok (.iload_n 3, 1) := by decide +kernel
theorem d_JArrays_fill_7 : decode b_JArrays_fill 7 = .ok (.if_icmp .ge 13, 3) := by decide +kernel
theorem d_JArrays_fill_10 : decode b_JArrays_fill 10 = .ok (.aload_n 0, 1) := by decide +kernel
theorem d_JArrays_fill_11 : decode b_JArrays_fill 11 = .ok (.iload_n 2, 1) := by decide +kernel
theorem d_JArrays_fill_12 : decode b_JArrays_fill 12 = .ok (.iload_n 1, 1) := by decide +kernel
theorem d_JArrays_fill_13 : decode b_JArrays_fill 13 = .ok (.iastore, 1) := by decide +kernel
theorem d_JArrays_fill_14 : decode b_JArrays_fill 14 = .ok (.iinc 2 1, 3) := by decide +kernel
theorem d_JArrays_fill_17 : decode b_JArrays_fill 17 = .ok (.goto (-12), 3) := by decide +kernel
theorem d_JArrays_fill_20 : decode b_JArrays_fill 20 = .ok (.return_, 1) := by decide +kernel
/-! an array's contents by their places; Arrays.fill -/
theorem vp_cell_congr {cA : ClassId} {n : Nat} {f g : Nat → Int32} (h : ∀ j, j < n → f j = g j) : vp_cell cA (n, .inl f) = vp_cell cA (n, .inl g) := by
  show arrV cA n (fun j => .int (f j)) = arrV cA n (fun j => .int (g j))
  unfold arrV
  have e : (Array.ofFn (n := n) fun j : Fin n => Value.int (f j.val)) = Array.ofFn (n := n) fun j : Fin n => Value.int (g j.val) := by
    congr 1
    funext j
    rw [h j.val j.isLt]
  show ({ cls := cA, slots := Array.ofFn (n := n) fun j : Fin n => Value.int (f j.val), vm := .none } : Cell) = { cls := cA, slots := Array.ofFn (n := n) fun j : Fin n => Value.int (g j.val), vm := .none }
  rw [e]
theorem vp_cell_congrL {cA : ClassId} {n : Nat} {f g : Nat → Int64} (h : ∀ j, j < n → f j = g j) : vp_cell cA (n, .inr (.inl f)) = vp_cell cA (n, .inr (.inl g)) := by
  show arrV cA n (fun j => .long (f j)) = arrV cA n (fun j => .long (g j))
  have e : (Array.ofFn (n := n) fun j : Fin n => Value.long (f j.val)) = Array.ofFn (n := n) fun j : Fin n => Value.long (g j.val) := by
    congr 1
    funext j
    rw [h j.val j.isLt]
  show ({ cls := cA, slots := Array.ofFn (n := n) fun j : Fin n => Value.long (f j.val), vm := .none } : Cell) = { cls := cA, slots := Array.ofFn (n := n) fun j : Fin n => Value.long (g j.val), vm := .none }
  rw [e]
theorem Wd.congr {G : Gt} {A : Nat → Prop} {H0 H : Heap} {ws : va_W} {locs : List Loc} (hW : Wd G A H0 ws H locs) (k : Nat) {a : Nat} {cA : ClassId} {x x' : vp_A} (he : ws[k]? = some (a, .inl (cA, x))) (hx : vp_cell cA x = vp_cell cA x') : Wd G A H0 (ws.set k (a, .inl (cA, x'))) H locs := by
  have hl := (List.getElem?_eq_some_iff.mp he).1
  refine ⟨fun i q hq => ?_, hW.2.1.set he, hW.2.2⟩
  by_cases h : i = k
  · subst h
    rw [List.getElem?_set_self hl] at hq
    cases hq
    have h0 : H[a]? = some (vp_cell cA x) := hW.1 i _ he
    show H[a]? = some (vp_cell cA x')
    rw [← hx]
    exact h0
  · rw [List.getElem?_set_ne (Ne.symm h)] at hq
    exact hW.1 i q hq
abbrev rm_JArrays_fill : Room := { frames := 0, cells := 0, slots := 0, locals := 0 }
set_option maxHeartbeats 4000000 in
set_option maxRecDepth 100000 in
theorem c_JArrays_fill (l : Launch) (G : Gt) (h0 n : Nat) (f : Nat → Int32) (x : Int32) (hn : n < 2 ^ 31) : Ct l G y_JArrays_fill b_JArrays_fill 4 none rm_JArrays_fill [.ref h0, .int x] [(h0, .inl (G.2 0, n, .inl f))] 0 0 (fun v w' => v = none ∧ w' = [(h0, .inl (G.2 0, n, .inl (fun _ => x)))]) := by
  refine Ct.of (by decide) (Nat.le_of_ble_eq_true rfl) (fun p e s m args below meth c A ls H locs hx hb hml hr hnl hown hts hnm hK hA hl hW => ?_)
  have hl : lv_has ls 4 [(0, .ref h0), (1, .int x)] := hl
  refine lv_iconst (v := 0) hx hb d_JArrays_fill_0 (by decide) ?_
  refine lv_istore_n (lv' := [(2, .int 0), (0, .ref h0), (1, .int x)]) hx hb d_JArrays_fill_1 rfl hl (by decide) rfl (fun ls hl => ?_)
  refine lv_aload_n hx hb d_JArrays_fill_2 rfl (lv_at hl 1 rfl) ?_
  refine Wd.alen (v := nI n) hx hb hK hW 0 0 d_JArrays_fill_3 rfl rfl rfl ?_
  refine lv_istore_n (lv' := [(3, .int (nI n)), (2, .int (nI 0)), (0, .ref h0), (1, .int x)]) hx hb d_JArrays_fill_4 rfl hl (by decide) rfl (fun ls hl => ?_)
  have loop : ∀ (u j : Nat) (F : Nat → Int32) (ls : Array Slot) (H : Heap) (locs : List Loc), j ≤ n → n - j < u → (∀ t, t < j → F t = x) → lv_has ls 4 [(3, .int (nI n)), (2, .int (nI j)), (0, .ref h0), (1, .int x)] → Wd G A s.heap [(h0, .inl (G.2 0, n, .inl F))] H locs →
      W p l e rm_JArrays_fill s m args below meth c H locs 0 0 (MQ below (Qcc G (fun v w' => v = none ∧ w' = [(h0, .inl (G.2 0, n, .inl (fun _ => x)))]) A) args s 0 0 A) (F0 m 5 ls []) := by
    intro u
    induction u with
    | zero => intro j F ls H locs hj hu; omega
    | succ u ih =>
      intro j F ls H locs hj hu hF hl hW
      refine lv_iload_n hx hb d_JArrays_fill_5 rfl (lv_at hl 1 rfl) ?_
      refine lv_iload_n hx hb d_JArrays_fill_6 rfl (lv_at hl 0 rfl) ?_
      refine lv_icmp_ge (tgt := 20) hx hb d_JArrays_fill_7 rfl (fun hge => ?_) (fun hlt => ?_)
      · have hj2 : j = n := by
          have := (nI_leI hn (by omega)).mp hge
          omega
        subst hj2
        have hW := hW.congr 0 rfl (vp_cell_congr (g := fun _ => x) hF)
        have hW : Wd G A s.heap [(h0, .inl (G.2 0, j, .inl (fun _ => x)))] H locs := hW
        exact Ct.vret hx hb hr hnl hW (by decide) (by decide) d_JArrays_fill_20 ⟨rfl, rfl⟩
      · have hj2 : j < n := by
          apply Nat.lt_of_not_le
          intro q
          exact hlt (nI_le q (by omega))
        refine lv_aload_n hx hb d_JArrays_fill_10 rfl (lv_at hl 2 rfl) ?_
        refine lv_iload_n hx hb d_JArrays_fill_11 rfl (lv_at hl 1 rfl) ?_
        refine lv_iload_n hx hb d_JArrays_fill_12 rfl (lv_at hl 3 rfl) ?_
        refine Wd.iast hx hb hK hW 0 d_JArrays_fill_13 rfl (vp_in_nI hj2 hn) (fun H locs hW => ?_)
        rw [nI_clamp (show j < 2 ^ 31 by omega)] at hW
        have hW : Wd G A s.heap [(h0, .inl (G.2 0, n, .inl (upd F j x)))] H locs := hW
        refine lv_iinc (k := 1) (v := nI (j + 1)) (lv' := [(2, .int (nI (j + 1))), (3, .int (nI n)), (0, .ref h0), (1, .int x)]) hx hb d_JArrays_fill_14 hl rfl (nI_succ j).symm (by decide) rfl (fun ls hl => ?_)
        refine lv_goto (tgt := 5) hx hb d_JArrays_fill_17 rfl ?_
        refine ih (j + 1) (upd F j x) ls H locs (by omega) (by omega) (fun t ht => ?_) (lv_sub hl [1, 0, 2, 3] rfl) hW
        by_cases q : t = j
        · simp [upd, q]
        · simp [upd, q]; exact hF t (by omega)
  exact loop (n + 1) 0 f ls H locs (Nat.zero_le _) (by omega) (fun t ht => by omega) hl hW

