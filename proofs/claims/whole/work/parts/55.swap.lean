section TS1
variable {kd tg fi se th : Nat → Int32} {pd px : Nat → Int32 → Int64} {g : G3} {L R P N B W M Q : T3} {cs cr tk sg sn oc : Int32} {op : Nat → Nat → Int32}
theorem tk_swap (hp : PadsOk pd px) (h : kd tk.toNatClampNeg = 6) : Tk (sStep kd tg fi se th pd px) 6 (tg tk.toNatClampNeg) (fi tk.toNatClampNeg) (se tk.toNatClampNeg) (th tk.toNatClampNeg) (g, (L, R, P, N, B), (W, M, Q, cs, cr), (tk, sg, sn, 0), op, oc) 21 := by
  have e1 : sIt (sStep kd tg fi se th pd px) 1 (g, (L, R, P, N, B), (W, M, Q, cs, cr), (tk, sg, sn, 0), op, oc) = cmSt px g N B (tHv (tLoad g (se tk.toNatClampNeg)) (tLoad g (fi tk.toNatClampNeg)), M, Q, 0, cr) tk (sn + 1) op oc 0 := by
    show sStep kd tg fi se th pd px (g, (L, R, P, N, B), (W, M, Q, cs, cr), (tk, sg, sn, 0), op, oc) = _
    unfold sStep
    simp only [if_true]
    simp only [sBegin, h, if_true]
    rw [if_neg (show ¬ (6 : Int32) = 3 by decide), if_neg (show ¬ (6 : Int32) = 4 by decide), if_neg (show ¬ (6 : Int32) = 5 by decide)]
    simp only [sGo]
    rw [if_neg (show ¬ (0 : Int32) = 5 by decide)]
    simp only [sSend, if_true]
    rfl
  obtain ⟨S, hS⟩ : ∃ S : SyT, S = (g, (L, R, P, N, B), (W, M, Q, cs, cr), (tk, sg, sn, 0), op, oc) := ⟨_, rfl⟩
  rw [← hS] at e1
  obtain ⟨a1, a2⟩ := cmp_go (kd := kd) (tg := tg) (fi := fi) (se := se) (th := th) hp g N B (tLoad g (se tk.toNatClampNeg)) (tLoad g (fi tk.toNatClampNeg)) M Q cr tk (sn + 1) oc op
  rw [← e1] at a1 a2
  have hbit := cmp_bit hp (tLoad g (se tk.toNatClampNeg)) (tLoad g (fi tk.toNatClampNeg)) M Q cr (sn + 1)
  rw [← sIt_add] at a2
  have hb0 := isB_and (jus (cmP px (sn + 1) (tHv (tLoad g (se tk.toNatClampNeg)) (tLoad g (fi tk.toNatClampNeg)), M, Q, 0, cr) 17).1.1.1 31)
  have hb1 := isB_and (jus (cmP px (sn + 1) (tHv (tLoad g (se tk.toNatClampNeg)) (tLoad g (fi tk.toNatClampNeg)), M, Q, 0, cr) 17).1.1.2.1 31)
  have hb2 := isB_and (jus (cmP px (sn + 1) (tHv (tLoad g (se tk.toNatClampNeg)) (tLoad g (fi tk.toNatClampNeg)), M, Q, 0, cr) 17).1.1.2.2 31)
  generalize cmN (sn + 1) 16 + 1 = n' at a2
  generalize e3n (cmP px (sn + 1) (tHv (tLoad g (se tk.toNatClampNeg)) (tLoad g (fi tk.toNatClampNeg)), M, Q, 0, cr) 16).2 = N' at a2
  obtain ⟨b, hb⟩ : ∃ b, b = tAnd (tMap (fun x => jus x 31) (cmP px (sn + 1) (tHv (tLoad g (se tk.toNatClampNeg)) (tLoad g (fi tk.toNatClampNeg)), M, Q, 0, cr) 17).1.1) 1 := ⟨_, rfl⟩
  have hb0 : isB b.1 := by rw [hb]; exact hb0
  have hb1 : isB b.2.1 := by rw [hb]; exact hb1
  have hb2 : isB b.2.2 := by rw [hb]; exact hb2
  rw [← hb] at a2 hbit
  generalize (cmP px (sn + 1) (tHv (tLoad g (se tk.toNatClampNeg)) (tLoad g (fi tk.toNatClampNeg)), M, Q, 0, cr) 17).1 = c' at a2
  have e19 := sIt_s (sStep kd tg fi se th pd px) 18 S
  rw [show (18 : Nat) = 1 + 17 from rfl, a2, jn_step] at e19
  have e20 := sIt_s (sStep kd tg fi se th pd px) 19 S
  rw [show (19 : Nat) = 1 + 17 + 1 from rfl, e19, jn2_sel (by rw [h]; decide)] at e20
  have ht : (if kd tk.toNatClampNeg = 6 then fi tk.toNatClampNeg else th tk.toNatClampNeg) = fi tk.toNatClampNeg := if_pos h
  rw [ht] at e20
  have e21 := sIt_s (sStep kd tg fi se th pd px) 20 S
  rw [show (20 : Nat) = 1 + 17 + 1 + 1 from rfl, e20, last_swap h] at e21
  have e21 : sIt (sStep kd tg fi se th pd px) 21 S = _ := e21
  refine ⟨by omega, by omega, ?_, ?_, ?_, ?_, fun m h1 h2 => ?_⟩
  · rw [← hS, e21, hS]
  · rw [← hS, e21]
  · rw [← hS, e21, hS]
    show gV (gStore (gStore g _ _) _ _) = _
    rw [gV_store, tv_add, tv_load, gV_store, tv_add, tv_mul hp, tv_jnB hp _ hb0 hb1 hb2, hbit, tv_add, tv_load, tv_load]
    rfl
  · rw [← hS, e21, hS]
    rfl
  · rw [← hS]
    by_cases q : m < 18
    · obtain ⟨k, rfl⟩ : ∃ k, m = 1 + k := ⟨m - 1, by omega⟩
      rw [sIt_add, a1 k (by omega), hS]
      exact ⟨rfl, rfl⟩
    · by_cases q2 : m = 18
      · subst q2
        rw [show (18 : Nat) = 1 + 17 from rfl, a2, hS]
        exact ⟨rfl, rfl⟩
      · by_cases q3 : m = 19
        · subst q3
          rw [show (19 : Nat) = 1 + 17 + 1 from rfl, e19, hS]
          exact ⟨rfl, rfl⟩
        · have : m = 1 + 17 + 1 + 1 := by omega
          subst this
          rw [e20, hS]
          exact ⟨rfl, rfl⟩
end TS1
