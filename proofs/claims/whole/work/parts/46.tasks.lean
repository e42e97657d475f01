/-! a task by three clerks, and the same openly -/
def PadsOk (pd px : Nat → Int32 → Int64) : Prop := ∀ n, (∃ r0 r1 r2, pd 0 n = r0 - r1 ∧ pd 1 n = r1 - r2 ∧ pd 2 n = r2 - r0) ∧ (∃ r0 r1 r2, px 0 n = r0 ^^^ r1 ∧ px 1 n = r1 ^^^ r2 ∧ px 2 n = r2 ^^^ r0)
theorem PadsOk.mul {pd px : Nat → Int32 → Int64} (h : PadsOk pd px) (n : Int32) (L R : T3) : sm (sMul pd n L R) = sm L * sm R := by
  obtain ⟨⟨r0, r1, r2, a, b, c⟩, -⟩ := h n
  exact sm_mul a b c L R
theorem PadsOk.con {pd px : Nat → Int32 → Int64} (h : PadsOk pd px) (n : Int32) (L R : T3) : xr (sCon px n L R) = xr L &&& xr R := by
  obtain ⟨-, r0, r1, r2, a, b, c⟩ := h n
  exact xr_con a b c L R
def gV (g : G3) : Nat → Int32 := fun j => (g j).1 + (g j).2.1 + (g j).2.2
def opv (v : Nat → Int32) (x : Int32) : Int32 := if x < 34 then v x.toNatClampNeg else x - 34
theorem i6432 (x : Int32) : x.toInt64.toInt32 = x := by
  apply Int32.toBitVec_inj.mp
  rw [Int64.toBitVec_toInt32, Int32.toBitVec_toInt64]
  apply BitVec.eq_of_getLsbD_eq
  intro i hi
  rw [BitVec.getLsbD_signExtend, if_pos (by omega), BitVec.getLsbD_signExtend, if_pos hi]
  simp [hi]
  omega
theorem i32add (x y : Int64) : (x + y).toInt32 = x.toInt32 + y.toInt32 := by
  apply Int32.toBitVec_inj.mp
  rw [Int64.toBitVec_toInt32, Int32.toBitVec_add, Int64.toBitVec_add, Int64.toBitVec_toInt32, Int64.toBitVec_toInt32]
  rw [BitVec.signExtend_eq_setWidth_of_le _ (by decide), BitVec.signExtend_eq_setWidth_of_le _ (by decide), BitVec.signExtend_eq_setWidth_of_le _ (by decide), BitVec.setWidth_add _ _ (by decide)]
theorem i32mul (x y : Int64) : (x * y).toInt32 = x.toInt32 * y.toInt32 := by
  apply Int32.toBitVec_inj.mp
  rw [Int64.toBitVec_toInt32, Int32.toBitVec_mul, Int64.toBitVec_mul, Int64.toBitVec_toInt32, Int64.toBitVec_toInt32]
  rw [BitVec.signExtend_eq_setWidth_of_le _ (by decide), BitVec.signExtend_eq_setWidth_of_le _ (by decide), BitVec.signExtend_eq_setWidth_of_le _ (by decide), BitVec.setWidth_mul _ _ (by decide)]
def tv (t : T3) : Int32 := (sm t).toInt32
theorem tv_load (g : G3) (x : Int32) : tv (tLoad g x) = opv (gV g) x := by
  unfold tv tLoad opv gV
  by_cases q : x < 34
  · simp only [if_pos q, sm, i32add, i6432]
  · simp only [if_neg q, sm_known, i6432]
theorem tv_add (a b : T3) (t : Int64) : tv (tAdd a b t) = tv a + t.toInt32 * tv b := by
  unfold tv
  rw [sm_add, i32add, i32mul]
theorem gV_store (g : G3) (x : Nat) (t : T3) : gV (gStore g x t) = upd (gV g) x (tv t) := by
  funext j
  unfold gV gStore upd tv sm
  by_cases q : j = x
  · simp only [if_pos q, i32add]
  · simp only [if_neg q]
/-- the bit of a comparison -/
def oLess (x y : Int32) : Int32 := if x.toBitVec.ult y.toBitVec then 1 else 0
def oOdd (x : Int32) : Int32 := x &&& 1
def oTask (k t f s h : Int32) (v : Nat → Int32) : Nat → Int32 :=
  if k = 3 then upd v t.toNatClampNeg (opv v f * opv v s)
  else if k = 4 then upd v t.toNatClampNeg (oLess (opv v f) (opv v s))
  else if k = 5 then upd v t.toNatClampNeg (oOdd (opv v f) * (opv v s + (-1) * opv v h) + 1 * opv v h)
  else if k = 6 then upd (upd v s.toNatClampNeg (opv v s + (-1) * (oLess (opv v s) (opv v f) * (opv v s + (-1) * opv v f)))) t.toNatClampNeg
      (oLess (opv v s) (opv v f) * (opv v s + (-1) * opv v f) + 1 * opv (upd v s.toNatClampNeg (opv v s + (-1) * (oLess (opv v s) (opv v f) * (opv v s + (-1) * opv v f)))) f)
  else if k = 7 then v
  else if k = 0 then upd v t.toNatClampNeg (opv v f)
  else upd v t.toNatClampNeg (opv v f + (if k = 1 then 1 else -1) * opv v s)
def sIt (f : SyT → SyT) : Nat → SyT → SyT
  | 0, S => S
  | n + 1, S => f (sIt f n S)
theorem sIt_add (f : SyT → SyT) (a : Nat) (S : SyT) : ∀ b, sIt f (a + b) S = sIt f b (sIt f a S)
  | 0 => rfl
  | b + 1 => by show f (sIt f (a + b) S) = f (sIt f b (sIt f a S)); rw [sIt_add f a S b]
/-- the words of a comparison, one after the other -/
def cmN (n : Int32) : Nat → Int32
  | 0 => n
  | k + 1 => cmN n k + 1
def cmP (px : Nat → Int32 → Int64) (n : Int32) (c : Cm3) : Nat → Cm3 × T3
  | 0 => (c, sCon px n (sAsk c).1 (sAsk c).2)
  | k + 1 => (sAcc (cmP px n c k).2 (cmP px n c k).1, sCon px (cmN n (k + 1)) (sAsk (sAcc (cmP px n c k).2 (cmP px n c k).1)).1 (sAsk (sAcc (cmP px n c k).2 (cmP px n c k).1)).2)
def cmNx (px : Nat → Int32 → Int64) (n : Int32) (c : Cm3) (N : T3) : Nat → T3
  | 0 => N
  | k + 1 => e3n (cmP px n c k).2
def cmSt (px : Nat → Int32 → Int64) (g : G3) (N B : T3) (c : Cm3) (tk n : Int32) (op : Nat → Nat → Int32) (oc : Int32) (k : Nat) : SyT :=
  (g, ((sAsk (cmP px n c k).1).1, (sAsk (cmP px n c k).1).2, (cmP px n c k).2, cmNx px n c N k, B), (cmP px n c k).1, (tk, 0, cmN n k, 1), op, oc)
theorem cmSt_step {kd tg fi se th : Nat → Int32} {pd px : Nat → Int32 → Int64} {g : G3} {N B : T3} {c : Cm3} {tk n : Int32} {op : Nat → Nat → Int32} {oc : Int32} {k : Nat} (h : (cmP px n c (k + 1)).1.2.2.2.1 ≠ 6) : sStep kd tg fi se th pd px (cmSt px g N B c tk n op oc k) = cmSt px g N B c tk n op oc (k + 1) := by
  have h : ¬ (sAcc (cmP px n c k).2 (cmP px n c k).1).2.2.2.1 = 6 := h
  unfold cmSt sStep
  simp only [sAns, if_true]
  rw [if_neg (show ¬ (1 : Int32) = 0 by decide)]
  simp only [sTake, if_true]
  rw [if_neg h]
  simp only [sGo, if_true]
  rw [if_neg (show ¬ (0 : Int32) = 5 by decide)]
  simp only [sSend, if_true]
  rfl
theorem cmSt_it {kd tg fi se th : Nat → Int32} {pd px : Nat → Int32 → Int64} {g : G3} {N B : T3} {c : Cm3} {tk n : Int32} {op : Nat → Nat → Int32} {oc : Int32} : ∀ k, (∀ j, j ≤ k → (cmP px n c j).1.2.2.2.1 ≠ 6) → sIt (sStep kd tg fi se th pd px) k (cmSt px g N B c tk n op oc 0) = cmSt px g N B c tk n op oc k
  | 0, _ => rfl
  | k + 1, h => by
    show sStep kd tg fi se th pd px (sIt (sStep kd tg fi se th pd px) k (cmSt px g N B c tk n op oc 0)) = _
    rw [cmSt_it k (fun j hj => h j (by omega))]
    exact cmSt_step (h (k + 1) (Nat.le_refl _))
/-- the bits, before they are joined -/
def jnSt (pd : Nat → Int32 → Int64) (g : G3) (b N : T3) (c : Cm3) (tk n : Int32) (op : Nat → Nat → Int32) (oc : Int32) : SyT :=
  (g, (tK0 b, tK1 b, sMul pd n (tK0 b) (tK1 b), N, b), c, (tk, 1, n, 1), op, oc)
theorem cmSt_end {kd tg fi se th : Nat → Int32} {pd px : Nat → Int32 → Int64} {g : G3} {N B : T3} {c : Cm3} {tk n : Int32} {op : Nat → Nat → Int32} {oc : Int32} {k : Nat} (h : (cmP px n c (k + 1)).1.2.2.2.1 = 6) : sStep kd tg fi se th pd px (cmSt px g N B c tk n op oc k) = jnSt pd g (tAnd (tMap (fun x => jus x 31) (cmP px n c (k + 1)).1.1) 1) (e3n (cmP px n c k).2) (cmP px n c (k + 1)).1 tk (cmN n k + 1) op oc := by
  have h : (sAcc (cmP px n c k).2 (cmP px n c k).1).2.2.2.1 = 6 := h
  unfold cmSt sStep
  simp only [sAns, if_true]
  rw [if_neg (show ¬ (1 : Int32) = 0 by decide)]
  simp only [sTake, if_true]
  rw [if_pos h]
  simp only [sGo, if_true]
  rw [if_neg (show ¬ (1 : Int32) = 5 by decide)]
  simp only [sSend, if_true]
  rw [if_neg (show ¬ (1 : Int32) = 0 by decide), if_neg (show ¬ (1 : Int32) = 4 by decide)]
  rfl
def jnL (pd : Nat → Int32 → Int64) (b : T3) (n : Int32) : T3 := tAdd (tAdd (tK0 b) (tK1 b) 1) (sMul pd n (tK0 b) (tK1 b)) (-2)
def jn2St (pd : Nat → Int32 → Int64) (g : G3) (b : T3) (c : Cm3) (tk n : Int32) (op : Nat → Nat → Int32) (oc : Int32) : SyT :=
  (g, (jnL pd b n, tK2 b, sMul pd (n + 1) (jnL pd b n) (tK2 b), e3n (sMul pd n (tK0 b) (tK1 b)), b), c, (tk, 2, n + 1, 1), op, oc)
theorem jn_step {kd tg fi se th : Nat → Int32} {pd px : Nat → Int32 → Int64} {g : G3} {b N : T3} {c : Cm3} {tk n : Int32} {op : Nat → Nat → Int32} {oc : Int32} : sStep kd tg fi se th pd px (jnSt pd g b N c tk n op oc) = jn2St pd g b c tk n op oc := by
  unfold jnSt sStep
  simp only [sAns, if_true]
  rw [if_neg (show ¬ (1 : Int32) = 0 by decide)]
  simp only [sTake, if_true]
  rw [if_neg (show ¬ (1 : Int32) = 0 by decide)]
  simp only [sGo, if_true]
  rw [if_neg (show ¬ (2 : Int32) = 5 by decide)]
  simp only [sSend, if_true]
  rw [if_neg (show ¬ (2 : Int32) = 0 by decide), if_neg (show ¬ (2 : Int32) = 4 by decide)]
  rfl
/-- the bit as a number -/
def jnB (pd : Nat → Int32 → Int64) (b : T3) (n : Int32) : T3 := tAdd (tAdd (jnL pd b n) (tK2 b) 1) (sMul pd (n + 1) (jnL pd b n) (tK2 b)) (-2)
def isB (x : Int64) : Prop := x = 0 ∨ x = 1
theorem isB_and (x : Int64) : isB (x &&& 1) := by
  cases h : bL x 0 with
  | false =>
    refine Or.inl (bL_ext (fun i hi => ?_))
    rw [bL_and, bL_1, bL_0]
    by_cases q : i = 0
    · subst q; rw [h]; rfl
    · simp [q]
  | true =>
    refine Or.inr (bL_ext (fun i hi => ?_))
    rw [bL_and, bL_1]
    by_cases q : i = 0
    · subst q; rw [h]; rfl
    · simp [q]
theorem jnB_val {pd px : Nat → Int32 → Int64} (hp : PadsOk pd px) {b : T3} (n : Int32) (h0 : isB b.1) (h1 : isB b.2.1) (h2 : isB b.2.2) : sm (jnB pd b n) = xr b := by
  obtain ⟨x, y, z⟩ := b
  unfold jnB
  rw [sm_add, sm_add, hp.mul]
  unfold jnL
  rw [sm_add, sm_add, hp.mul]
  have e0 : sm (tK0 (x, y, z)) = x := by unfold sm tK0; grind
  have e1 : sm (tK1 (x, y, z)) = y := by unfold sm tK1; grind
  have e2 : sm (tK2 (x, y, z)) = z := by unfold sm tK2; grind
  rw [e0, e1, e2]
  unfold xr
  rcases h0 with h0 | h0 <;> rcases h1 with h1 | h1 <;> rcases h2 with h2 | h2 <;> (simp only at h0 h1 h2; subst h0 h1 h2; decide)
