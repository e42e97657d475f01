theorem sIt_s (f : SyT → SyT) (n : Nat) (S : SyT) : sIt f (n + 1) S = f (sIt f n S) := rfl
section TC1
variable {kd tg fi se th : Nat → Int32} {pd px : Nat → Int32 → Int64} {g : G3} {L R P N B W M Q : T3} {cs cr tk sg sn oc : Int32} {op : Nat → Nat → Int32}
theorem tk_choose (hp : PadsOk pd px) (h : kd tk.toNatClampNeg = 5) : Tk (sStep kd tg fi se th pd px) 5 (tg tk.toNatClampNeg) (fi tk.toNatClampNeg) (se tk.toNatClampNeg) (th tk.toNatClampNeg) (g, (L, R, P, N, B), (W, M, Q, cs, cr), (tk, sg, sn, 0), op, oc) 4 := by
  have e1 : sIt (sStep kd tg fi se th pd px) 1 (g, (L, R, P, N, B), (W, M, Q, cs, cr), (tk, sg, sn, 0), op, oc) = jnSt pd g (tAnd (tLoad g (fi tk.toNatClampNeg)) 1) N (W, M, Q, cs, cr) tk (sn + 1) op oc := by
    show sStep kd tg fi se th pd px (g, (L, R, P, N, B), (W, M, Q, cs, cr), (tk, sg, sn, 0), op, oc) = _
    unfold sStep
    simp only [if_true]
    simp only [sBegin, h, if_true]
    rw [if_neg (show ¬ (5 : Int32) = 3 by decide), if_neg (show ¬ (5 : Int32) = 4 by decide)]
    simp only [sGo]
    rw [if_neg (show ¬ (1 : Int32) = 5 by decide)]
    simp only [sSend]
    rw [if_neg (show ¬ (1 : Int32) = 0 by decide), if_neg (show ¬ (1 : Int32) = 4 by decide)]
    rfl
  obtain ⟨b, hb⟩ : ∃ b, b = tAnd (tLoad g (fi tk.toNatClampNeg)) 1 := ⟨_, rfl⟩
  rw [← hb] at e1
  have e2 : sIt (sStep kd tg fi se th pd px) 2 (g, (L, R, P, N, B), (W, M, Q, cs, cr), (tk, sg, sn, 0), op, oc) = jn2St pd g b (W, M, Q, cs, cr) tk (sn + 1) op oc := by
    show sStep kd tg fi se th pd px (sIt (sStep kd tg fi se th pd px) 1 _) = _
    rw [e1]
    exact jn_step
  have e3 := jn2_sel (kd := kd) (tg := tg) (fi := fi) (se := se) (th := th) (pd := pd) (px := px) (g := g) (b := b) (c := (W, M, Q, cs, cr)) (tk := tk) (n := sn + 1) (op := op) (oc := oc) (by rw [h]; decide)
  rw [← e2] at e3
  have e3 := (sIt_s (sStep kd tg fi se th pd px) 2 (g, (L, R, P, N, B), (W, M, Q, cs, cr), (tk, sg, sn, 0), op, oc)).trans e3
  have ht : (if kd tk.toNatClampNeg = 6 then fi tk.toNatClampNeg else th tk.toNatClampNeg) = th tk.toNatClampNeg := by rw [h]; rfl
  rw [ht] at e3
  have e4 := last_choose (tg := tg) (fi := fi) (se := se) (th := th) (pd := pd) (px := px) (g := g) (L := jnB pd b (sn + 1)) (R := tAdd (tLoad g (se tk.toNatClampNeg)) (tLoad g (th tk.toNatClampNeg)) (-1)) (P := sMul pd (sn + 1 + 1 + 1) (jnB pd b (sn + 1)) (tAdd (tLoad g (se tk.toNatClampNeg)) (tLoad g (th tk.toNatClampNeg)) (-1))) (N := e3n (sMul pd (sn + 1 + 1) (jnL pd b (sn + 1)) (tK2 b))) (B := jnB pd b (sn + 1)) (c := (W, M, Q, cs, cr)) (n := sn + 1 + 1 + 1) (op := op) (oc := oc) h
  rw [← e3] at e4
  have e4 := (sIt_s (sStep kd tg fi se th pd px) 3 (g, (L, R, P, N, B), (W, M, Q, cs, cr), (tk, sg, sn, 0), op, oc)).trans e4
  refine ⟨by omega, by omega, ?_, ?_, ?_, ?_, fun m h1 h2 => ?_⟩
  · rw [e4]
  · rw [e4]
  · rw [e4]
    show gV (gStore g _ _) = _
    have hv : tv (jnB pd b (sn + 1)) = oOdd (opv (gV g) (fi tk.toNatClampNeg)) := by
      rw [tv_jnB hp _ (by rw [hb]; exact isB_and _) (by rw [hb]; exact isB_and _) (by rw [hb]; exact isB_and _), hb, xr_odd, tv_load]
    rw [gV_store, tv_add, tv_mul hp, hv, tv_add, tv_load, tv_load]
    rfl
  · rw [e4]
    rfl
  · rcases (show m = 1 ∨ m = 2 ∨ m = 3 by omega) with rfl | rfl | rfl
    · rw [e1]; exact ⟨rfl, rfl⟩
    · rw [e2]; exact ⟨rfl, rfl⟩
    · rw [e3]; exact ⟨rfl, rfl⟩
end TC1
