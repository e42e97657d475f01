/-! each kind of task, to its end -/
def oOpen (k x : Int32) (u : (Nat → Int32) × Int32) : (Nat → Int32) × Int32 := if k = 7 then (if 16 ≤ u.2 then u else (upd u.1 u.2.toNatClampNeg x, u.2 + 1)) else u
/-- from the beginning of a task to that of the next one in n steps -/
def Tk (f : SyT → SyT) (k t a b c : Int32) (S : SyT) (n : Nat) : Prop :=
  1 ≤ n ∧ n ≤ 21 ∧ (sIt f n S).2.2.2.1.1 = S.2.2.2.1.1 + 1 ∧ (sIt f n S).2.2.2.1.2.2.2 = 0 ∧ gV (sIt f n S).1 = oTask k t a b c (gV S.1) ∧ ((sIt f n S).2.2.2.2.1 0, (sIt f n S).2.2.2.2.2) = oOpen k (opv (gV S.1) a) (S.2.2.2.2.1 0, S.2.2.2.2.2) ∧
  ∀ m, 1 ≤ m → m < n → (sIt f m S).2.2.2.1.1 = S.2.2.2.1.1 ∧ (sIt f m S).2.2.2.1.2.2.2 = 1
section TK
variable {kd tg fi se th : Nat → Int32} {pd px : Nat → Int32 → Int64} {g : G3} {L R P N B W M Q : T3} {cs cr tk sg sn oc : Int32} {op : Nat → Nat → Int32}
theorem tk_copy (h : kd tk.toNatClampNeg = 0) : Tk (sStep kd tg fi se th pd px) 0 (tg tk.toNatClampNeg) (fi tk.toNatClampNeg) (se tk.toNatClampNeg) (th tk.toNatClampNeg) (g, (L, R, P, N, B), (W, M, Q, cs, cr), (tk, sg, sn, 0), op, oc) 1 := by
  have e : sIt (sStep kd tg fi se th pd px) 1 (g, (L, R, P, N, B), (W, M, Q, cs, cr), (tk, sg, sn, 0), op, oc) = (gStore g (tg tk.toNatClampNeg).toNatClampNeg (tLoad g (fi tk.toNatClampNeg)), (tLoad g (fi tk.toNatClampNeg), R, P, N, B), (W, M, Q, cs, cr), (tk + 1, 5, sn, 0), op, oc) := by
    show sStep kd tg fi se th pd px (g, (L, R, P, N, B), (W, M, Q, cs, cr), (tk, sg, sn, 0), op, oc) = _
    unfold sStep
    simp only [if_true]
    simp only [sBegin, h, if_true]
    rw [if_neg (show ¬ (0 : Int32) = 3 by decide), if_neg (show ¬ (0 : Int32) = 4 by decide), if_neg (show ¬ (0 : Int32) = 5 by decide), if_neg (show ¬ (0 : Int32) = 6 by decide), if_neg (show ¬ (0 : Int32) = 7 by decide)]
    simp only [sGo, if_true]
  refine ⟨by omega, by omega, ?_, ?_, ?_, ?_, fun m h1 h2 => by omega⟩
  · rw [e]
  · rw [e]
  · rw [e]
    show gV (gStore g _ _) = _
    rw [gV_store, tv_load]
    rfl
  · rw [e]
    rfl
theorem tk_sum {k : Int32} (h : kd tk.toNatClampNeg = k) (hk : k = 1 ∨ k = 2) : Tk (sStep kd tg fi se th pd px) k (tg tk.toNatClampNeg) (fi tk.toNatClampNeg) (se tk.toNatClampNeg) (th tk.toNatClampNeg) (g, (L, R, P, N, B), (W, M, Q, cs, cr), (tk, sg, sn, 0), op, oc) 1 := by
  have n3 : ¬ k = 3 := by rcases hk with rfl | rfl <;> decide
  have n4 : ¬ k = 4 := by rcases hk with rfl | rfl <;> decide
  have n5 : ¬ k = 5 := by rcases hk with rfl | rfl <;> decide
  have n6 : ¬ k = 6 := by rcases hk with rfl | rfl <;> decide
  have n7 : ¬ k = 7 := by rcases hk with rfl | rfl <;> decide
  have n0 : ¬ k = 0 := by rcases hk with rfl | rfl <;> decide
  have e : sIt (sStep kd tg fi se th pd px) 1 (g, (L, R, P, N, B), (W, M, Q, cs, cr), (tk, sg, sn, 0), op, oc) = (gStore g (tg tk.toNatClampNeg).toNatClampNeg (tAdd (tLoad g (fi tk.toNatClampNeg)) (tLoad g (se tk.toNatClampNeg)) (if k = 1 then 1 else -1)), (tAdd (tLoad g (fi tk.toNatClampNeg)) (tLoad g (se tk.toNatClampNeg)) (if k = 1 then 1 else -1), tLoad g (se tk.toNatClampNeg), P, N, B), (W, M, Q, cs, cr), (tk + 1, 5, sn, 0), op, oc) := by
    show sStep kd tg fi se th pd px (g, (L, R, P, N, B), (W, M, Q, cs, cr), (tk, sg, sn, 0), op, oc) = _
    unfold sStep
    simp only [if_true]
    simp only [sBegin, h, if_true]
    rw [if_neg n3, if_neg n4, if_neg n5, if_neg n6, if_neg n7, if_neg n0]
    simp only [sGo, if_true]
  refine ⟨by omega, by omega, ?_, ?_, ?_, ?_, fun m h1 h2 => by omega⟩
  · rw [e]
  · rw [e]
  · rw [e]
    show gV (gStore g _ _) = _
    rw [gV_store, tv_add, tv_load, tv_load]
    unfold oTask
    rw [if_neg n3, if_neg n4, if_neg n5, if_neg n6, if_neg n7, if_neg n0]
    rcases hk with rfl | rfl <;> rfl
  · rw [e]
    unfold oOpen
    rw [if_neg n7]
theorem tk_mul (hp : PadsOk pd px) (h : kd tk.toNatClampNeg = 3) : Tk (sStep kd tg fi se th pd px) 3 (tg tk.toNatClampNeg) (fi tk.toNatClampNeg) (se tk.toNatClampNeg) (th tk.toNatClampNeg) (g, (L, R, P, N, B), (W, M, Q, cs, cr), (tk, sg, sn, 0), op, oc) 2 := by
  have e1 : sIt (sStep kd tg fi se th pd px) 1 (g, (L, R, P, N, B), (W, M, Q, cs, cr), (tk, sg, sn, 0), op, oc) = (g, (tLoad g (fi tk.toNatClampNeg), tLoad g (se tk.toNatClampNeg), sMul pd (sn + 1) (tLoad g (fi tk.toNatClampNeg)) (tLoad g (se tk.toNatClampNeg)), N, B), (W, M, Q, cs, cr), (tk, 3, sn + 1, 1), op, oc) := by
    show sStep kd tg fi se th pd px (g, (L, R, P, N, B), (W, M, Q, cs, cr), (tk, sg, sn, 0), op, oc) = _
    unfold sStep
    simp only [if_true]
    simp only [sBegin, h, if_true]
    simp only [sGo, if_true]
    rw [if_neg (show ¬ (3 : Int32) = 5 by decide)]
    simp only [sSend, if_true]
    rw [if_neg (show ¬ (3 : Int32) = 0 by decide), if_neg (show ¬ (3 : Int32) = 4 by decide)]
  obtain ⟨Z, hZ⟩ : ∃ Z, Z = sMul pd (sn + 1) (tLoad g (fi tk.toNatClampNeg)) (tLoad g (se tk.toNatClampNeg)) := ⟨_, rfl⟩
  rw [← hZ] at e1
  have e : sIt (sStep kd tg fi se th pd px) 2 (g, (L, R, P, N, B), (W, M, Q, cs, cr), (tk, sg, sn, 0), op, oc) = (gStore g (tg tk.toNatClampNeg).toNatClampNeg Z, (tLoad g (fi tk.toNatClampNeg), tLoad g (se tk.toNatClampNeg), Z, e3n Z, B), (W, M, Q, cs, cr), (tk + 1, 5, sn + 1, 0), op, oc) := by
    show sStep kd tg fi se th pd px (sIt (sStep kd tg fi se th pd px) 1 _) = _
    rw [e1]
    unfold sStep
    simp only [if_true]
    rw [if_neg (show ¬ (1 : Int32) = 0 by decide)]
    simp only [sAns, sTake, if_true]
    rw [if_neg (show ¬ (3 : Int32) = 0 by decide), if_neg (show ¬ (3 : Int32) = 1 by decide), if_neg (show ¬ (3 : Int32) = 2 by decide)]
    simp only [sLast, h, if_true]
    rw [if_neg (show ¬ (3 : Int32) = 5 by decide), if_neg (show ¬ (3 : Int32) = 6 by decide)]
    simp only [sGo, if_true]
  refine ⟨by omega, by omega, ?_, ?_, ?_, ?_, fun m h1 h2 => ?_⟩
  · rw [e]
  · rw [e]
  · rw [e]
    show gV (gStore g _ _) = _
    rw [gV_store, hZ, show ∀ a b : T3, ∀ n, tv (sMul pd n a b) = tv a * tv b from fun a b n => by unfold tv; rw [hp.mul, i32mul], tv_load, tv_load]
    rfl
  · rw [e]
    rfl
  · have : m = 1 := by omega
    subst this
    rw [e1]
    exact ⟨rfl, rfl⟩
theorem tk_open (h : kd tk.toNatClampNeg = 7) : Tk (sStep kd tg fi se th pd px) 7 (tg tk.toNatClampNeg) (fi tk.toNatClampNeg) (se tk.toNatClampNeg) (th tk.toNatClampNeg) (g, (L, R, P, N, B), (W, M, Q, cs, cr), (tk, sg, sn, 0), op, oc) 2 := by
  have e1 : sIt (sStep kd tg fi se th pd px) 1 (g, (L, R, P, N, B), (W, M, Q, cs, cr), (tk, sg, sn, 0), op, oc) = (g, (tLoad g (fi tk.toNatClampNeg), R, e3n (tLoad g (fi tk.toNatClampNeg)), N, B), (W, M, Q, cs, cr), (tk, 4, sn + 1, 1), op, oc) := by
    show sStep kd tg fi se th pd px (g, (L, R, P, N, B), (W, M, Q, cs, cr), (tk, sg, sn, 0), op, oc) = _
    unfold sStep
    simp only [if_true]
    simp only [sBegin, h, if_true]
    rw [if_neg (show ¬ (7 : Int32) = 3 by decide), if_neg (show ¬ (7 : Int32) = 4 by decide), if_neg (show ¬ (7 : Int32) = 5 by decide), if_neg (show ¬ (7 : Int32) = 6 by decide)]
    simp only [sGo, if_true]
    rw [if_neg (show ¬ (4 : Int32) = 5 by decide)]
    simp only [sSend, if_true]
    rw [if_neg (show ¬ (4 : Int32) = 0 by decide)]
  have hv0 : ((vw 0 (tLoad g (fi tk.toNatClampNeg))).1 + (vw 0 (tLoad g (fi tk.toNatClampNeg))).2 + (vw 0 (e3n (tLoad g (fi tk.toNatClampNeg)))).2).toInt32 = opv (gV g) (fi tk.toNatClampNeg) := tv_load g (fi tk.toNatClampNeg)
  by_cases ho : 16 ≤ oc
  · have e : sIt (sStep kd tg fi se th pd px) 2 (g, (L, R, P, N, B), (W, M, Q, cs, cr), (tk, sg, sn, 0), op, oc) = (g, (tLoad g (fi tk.toNatClampNeg), R, e3n (tLoad g (fi tk.toNatClampNeg)), e3n (e3n (tLoad g (fi tk.toNatClampNeg))), B), (W, M, Q, cs, cr), (tk + 1, 5, sn + 1, 0), op, oc) := by
      show sStep kd tg fi se th pd px (sIt (sStep kd tg fi se th pd px) 1 _) = _
      rw [e1]
      unfold sStep
      simp only [if_true]
      rw [if_neg (show ¬ (1 : Int32) = 0 by decide)]
      simp only [sAns, if_true]
      simp only [sTake, if_true]
      rw [if_neg (show ¬ (4 : Int32) = 0 by decide), if_neg (show ¬ (4 : Int32) = 1 by decide), if_neg (show ¬ (4 : Int32) = 2 by decide), if_neg (show ¬ (4 : Int32) = 3 by decide), if_pos ho]
      simp only [sGo, if_true]
    refine ⟨by omega, by omega, ?_, ?_, ?_, ?_, fun m h1 h2 => ?_⟩
    · rw [e]
    · rw [e]
    · rw [e]; rfl
    · rw [e]
      unfold oOpen
      simp only [if_true]
      rw [if_pos ho]
    · have : m = 1 := by omega
      subst this
      rw [e1]
      exact ⟨rfl, rfl⟩
  · have e : sIt (sStep kd tg fi se th pd px) 2 (g, (L, R, P, N, B), (W, M, Q, cs, cr), (tk, sg, sn, 0), op, oc) = (g, (tLoad g (fi tk.toNatClampNeg), R, e3n (tLoad g (fi tk.toNatClampNeg)), e3n (e3n (tLoad g (fi tk.toNatClampNeg))), B), (W, M, Q, cs, cr), (tk + 1, 5, sn + 1, 0), fun i => upd (op i) oc.toNatClampNeg ((vw i (tLoad g (fi tk.toNatClampNeg))).1 + (vw i (tLoad g (fi tk.toNatClampNeg))).2 + (vw i (e3n (tLoad g (fi tk.toNatClampNeg)))).2).toInt32, oc + 1) := by
      show sStep kd tg fi se th pd px (sIt (sStep kd tg fi se th pd px) 1 _) = _
      rw [e1]
      unfold sStep
      simp only [if_true]
      rw [if_neg (show ¬ (1 : Int32) = 0 by decide)]
      simp only [sAns, if_true]
      simp only [sTake, if_true]
      rw [if_neg (show ¬ (4 : Int32) = 0 by decide), if_neg (show ¬ (4 : Int32) = 1 by decide), if_neg (show ¬ (4 : Int32) = 2 by decide), if_neg (show ¬ (4 : Int32) = 3 by decide), if_neg ho]
      simp only [sGo, if_true]
    refine ⟨by omega, by omega, ?_, ?_, ?_, ?_, fun m h1 h2 => ?_⟩
    · rw [e]
    · rw [e]
    · rw [e]; rfl
    · rw [e]
      unfold oOpen
      simp only [if_true]
      rw [if_neg ho, hv0]
    · have : m = 1 := by omega
      subst this
      rw [e1]
      exact ⟨rfl, rfl⟩
end TK
