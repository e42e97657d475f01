/-! less, choose, swap to their ends -/
section TE
variable {kd tg fi se th : Nat → Int32} {pd px : Nat → Int32 → Int64} {g : G3} {L R P N B b : T3} {c : Cm3} {tk n oc : Int32} {op : Nat → Nat → Int32}
theorem jn2_less (h : kd tk.toNatClampNeg = 4) : sStep kd tg fi se th pd px (jn2St pd g b c tk n op oc) = (gStore g (tg tk.toNatClampNeg).toNatClampNeg (jnB pd b n), (jnL pd b n, tK2 b, sMul pd (n + 1) (jnL pd b n) (tK2 b), e3n (sMul pd (n + 1) (jnL pd b n) (tK2 b)), jnB pd b n), c, (tk + 1, 5, n + 1, 0), op, oc) := by
  unfold jn2St sStep
  simp only [sAns, if_true]
  rw [if_neg (show ¬ (1 : Int32) = 0 by decide)]
  simp only [sTake, if_true]
  rw [if_neg (show ¬ (2 : Int32) = 0 by decide), if_neg (show ¬ (2 : Int32) = 1 by decide)]
  simp only [sBit, h, if_true]
  simp only [sGo, if_true]
  rfl
theorem jn2_sel (h : ¬ kd tk.toNatClampNeg = 4) : sStep kd tg fi se th pd px (jn2St pd g b c tk n op oc) = (g, (jnB pd b n, tAdd (tLoad g (se tk.toNatClampNeg)) (tLoad g (if kd tk.toNatClampNeg = 6 then fi tk.toNatClampNeg else th tk.toNatClampNeg)) (-1), sMul pd (n + 1 + 1) (jnB pd b n) (tAdd (tLoad g (se tk.toNatClampNeg)) (tLoad g (if kd tk.toNatClampNeg = 6 then fi tk.toNatClampNeg else th tk.toNatClampNeg)) (-1)), e3n (sMul pd (n + 1) (jnL pd b n) (tK2 b)), jnB pd b n), c, (tk, 3, n + 1 + 1, 1), op, oc) := by
  unfold jn2St sStep
  simp only [sAns, if_true]
  rw [if_neg (show ¬ (1 : Int32) = 0 by decide)]
  simp only [sTake, if_true]
  rw [if_neg (show ¬ (2 : Int32) = 0 by decide), if_neg (show ¬ (2 : Int32) = 1 by decide)]
  simp only [sBit]
  rw [if_neg h]
  simp only [sGo]
  rw [if_neg (show ¬ (3 : Int32) = 5 by decide)]
  simp only [sSend]
  rw [if_neg (show ¬ (3 : Int32) = 0 by decide), if_neg (show ¬ (3 : Int32) = 4 by decide)]
  rfl
theorem last_choose (h : kd tk.toNatClampNeg = 5) : sStep kd tg fi se th pd px (g, (L, R, P, N, B), c, (tk, 3, n, 1), op, oc) = (gStore g (tg tk.toNatClampNeg).toNatClampNeg (tAdd P (tLoad g (th tk.toNatClampNeg)) 1), (tLoad g (th tk.toNatClampNeg), R, tAdd P (tLoad g (th tk.toNatClampNeg)) 1, e3n (tAdd P (tLoad g (th tk.toNatClampNeg)) 1), B), c, (tk + 1, 5, n, 0), op, oc) := by
  unfold sStep
  simp only [sAns, if_true]
  rw [if_neg (show ¬ (1 : Int32) = 0 by decide)]
  simp only [sTake, if_true]
  rw [if_neg (show ¬ (3 : Int32) = 0 by decide), if_neg (show ¬ (3 : Int32) = 1 by decide), if_neg (show ¬ (3 : Int32) = 2 by decide)]
  simp only [sLast, h, if_true]
  simp only [sGo, if_true]
theorem last_swap (h : kd tk.toNatClampNeg = 6) : sStep kd tg fi se th pd px (g, (L, R, P, N, B), c, (tk, 3, n, 1), op, oc) =
    (fun (R' : T3) (g' : G3) => (gStore g' (tg tk.toNatClampNeg).toNatClampNeg (tAdd P (tLoad g' (fi tk.toNatClampNeg)) 1), (tLoad g' (fi tk.toNatClampNeg), R', tAdd P (tLoad g' (fi tk.toNatClampNeg)) 1, e3n (tAdd P (tLoad g' (fi tk.toNatClampNeg)) 1), B), c, (tk + 1, 5, n, 0), op, oc))
      (tAdd (tLoad g (se tk.toNatClampNeg)) P (-1)) (gStore g (se tk.toNatClampNeg).toNatClampNeg (tAdd (tLoad g (se tk.toNatClampNeg)) P (-1))) := by
  unfold sStep
  simp only [sAns, if_true]
  rw [if_neg (show ¬ (1 : Int32) = 0 by decide)]
  simp only [sTake, if_true]
  rw [if_neg (show ¬ (3 : Int32) = 0 by decide), if_neg (show ¬ (3 : Int32) = 1 by decide), if_neg (show ¬ (3 : Int32) = 2 by decide)]
  simp only [sLast, h, if_true]
  rw [if_neg (show ¬ (6 : Int32) = 5 by decide)]
  simp only [sGo, if_true]
end TE
