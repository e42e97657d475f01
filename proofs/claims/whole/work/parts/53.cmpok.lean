/-! the seventeen words of a comparison come to its bit -/
theorem cmp_ok {pd px : Nat → Int32 → Int64} (hp : PadsOk pd px) (X Y M Q : T3) (cr n : Int32) : (cmP px n (tHv X Y, M, Q, 0, cr) 17).1.2.2.2.1 = 6 ∧ (∀ k, k < 17 → (cmP px n (tHv X Y, M, Q, 0, cr) k).1.2.2.2.1 ≠ 6) ∧ bL (xr (cmP px n (tHv X Y, M, Q, 0, cr) 17).1.1) 31 = (hv 0 X.1 + hv 0 X.2.1 + hv 0 X.2.2).ult (hv 0 Y.1 + hv 0 Y.2.1 + hv 0 Y.2.2) :=
  cm_run (M0 := M) (Q0 := Q) (cr0 := cr) (cm := fun k => (cmP px n (tHv X Y, M, Q, 0, cr) k).1) (P := fun k => (cmP px n (tHv X Y, M, Q, 0, cr) k).2) rfl (fun _ _ => rfl) (fun k _ => by
    cases k with
    | zero => exact hp.con _ _ _
    | succ k => exact hp.con _ _ _)
theorem cmp_go {kd tg fi se th : Nat → Int32} {pd px : Nat → Int32 → Int64} (hp : PadsOk pd px) (g : G3) (N B X Y M Q : T3) (cr tk n oc : Int32) (op : Nat → Nat → Int32) :
    (∀ m, m < 17 → sIt (sStep kd tg fi se th pd px) m (cmSt px g N B (tHv X Y, M, Q, 0, cr) tk n op oc 0) = cmSt px g N B (tHv X Y, M, Q, 0, cr) tk n op oc m) ∧
    sIt (sStep kd tg fi se th pd px) 17 (cmSt px g N B (tHv X Y, M, Q, 0, cr) tk n op oc 0) = jnSt pd g (tAnd (tMap (fun x => jus x 31) (cmP px n (tHv X Y, M, Q, 0, cr) 17).1.1) 1) (e3n (cmP px n (tHv X Y, M, Q, 0, cr) 16).2) (cmP px n (tHv X Y, M, Q, 0, cr) 17).1 tk (cmN n 16 + 1) op oc := by
  obtain ⟨h1, h2, -⟩ := cmp_ok hp X Y M Q cr n
  have a : ∀ m, m < 17 → sIt (sStep kd tg fi se th pd px) m (cmSt px g N B (tHv X Y, M, Q, 0, cr) tk n op oc 0) = cmSt px g N B (tHv X Y, M, Q, 0, cr) tk n op oc m := fun m hm => cmSt_it m (fun j hj => h2 j (by omega))
  refine ⟨a, ?_⟩
  rw [sIt_s _ 16, a 16 (by omega)]
  exact cmSt_end h1
theorem cmp_bit {pd px : Nat → Int32 → Int64} (hp : PadsOk pd px) (X Y M Q : T3) (cr n : Int32) : (xr (tAnd (tMap (fun x => jus x 31) (cmP px n (tHv X Y, M, Q, 0, cr) 17).1.1) 1)).toInt32 = oLess (tv X) (tv Y) := by
  rw [xr_and, xr_map (jus_xor 31)]
  exact less_bit (cmp_ok hp X Y M Q cr n).2.2
