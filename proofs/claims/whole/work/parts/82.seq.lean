/-! tasks in a row: how many steps, what the clerks count, what comes out -/
theorem sBegin_ct (kd tg fi se : Nat → Int32) (S : SyT) : (sBegin kd tg fi se S).2.2.2.1.1 = S.2.2.2.1.1 ∧ (sBegin kd tg fi se S).2.2.2.1.2.2.1 = S.2.2.2.1.2.2.1 ∧ (sBegin kd tg fi se S).2.2.2.2.2 = S.2.2.2.2.2 := by
  obtain ⟨g, ⟨L, R, P, N, B⟩, ⟨W, M, Q, cs, cr⟩, ⟨tk, sg, sn, wa⟩, op, oc⟩ := S
  simp only [sBegin]
  repeat' split
  all_goals exact ⟨rfl, rfl, rfl⟩
theorem sTake_ct (kd tg fi se th : Nat → Int32) (S : SyT) : (sTake kd tg fi se th S).2.2.2.1.1 = S.2.2.2.1.1 ∧ (sTake kd tg fi se th S).2.2.2.1.2.2.1 = S.2.2.2.1.2.2.1 ∧ ((sTake kd tg fi se th S).2.2.2.2.2 = S.2.2.2.2.2 ∨ (¬ 16 ≤ S.2.2.2.2.2 ∧ (sTake kd tg fi se th S).2.2.2.2.2 = S.2.2.2.2.2 + 1)) := by
  obtain ⟨g, ⟨L, R, P, N, B⟩, cm, ⟨tk, sg, sn, wa⟩, op, oc⟩ := S
  simp only [sTake, sBit, sLast]
  repeat' split
  all_goals first
    | exact ⟨rfl, rfl, Or.inl rfl⟩
    | exact ⟨rfl, rfl, Or.inr ⟨by assumption, rfl⟩⟩
theorem sAns_ct (S : SyT) : (sAns S).2.2.2.1 = S.2.2.2.1 ∧ (sAns S).2.2.2.2 = S.2.2.2.2 := by
  obtain ⟨g, ⟨L, R, P, N, B⟩, r⟩ := S
  exact ⟨rfl, rfl⟩
theorem sGo_ct (pd px : Nat → Int32 → Int64) (S : SyT) : ((sGo pd px S).2.2.2.1.1 = S.2.2.2.1.1 + 1 ∧ (sGo pd px S).2.2.2.1.2.2.1 = S.2.2.2.1.2.2.1 ∧ (sGo pd px S).2.2.2.1.2.2.2 = 0 ∧ S.2.2.2.1.2.1 = 5 ∧ (sGo pd px S).2.2.2.2 = S.2.2.2.2) ∨ ((sGo pd px S).2.2.2.1.1 = S.2.2.2.1.1 ∧ (sGo pd px S).2.2.2.1.2.2.1 = S.2.2.2.1.2.2.1 + 1 ∧ (sGo pd px S).2.2.2.1.2.2.2 = 1 ∧ S.2.2.2.1.2.1 ≠ 5 ∧ (sGo pd px S).2.2.2.2 = S.2.2.2.2) := by
  obtain ⟨g, ⟨L, R, P, N, B⟩, cm, ⟨tk, sg, sn, wa⟩, op, oc⟩ := S
  simp only [sGo, sSend]
  by_cases h5 : sg = 5
  · rw [if_pos h5]
    exact Or.inl ⟨rfl, rfl, rfl, h5, rfl⟩
  · rw [if_neg h5]
    refine Or.inr ?_
    repeat' split
    all_goals exact ⟨rfl, rfl, rfl, h5, rfl⟩
section SEQ
variable {kd tg fi se th : Nat → Int32} {pd px : Nat → Int32 → Int64}
theorem sStep_ct (S : SyT) : ((sStep kd tg fi se th pd px S).2.2.2.1.1 = S.2.2.2.1.1 + 1 ∧ (sStep kd tg fi se th pd px S).2.2.2.1.2.2.1 = S.2.2.2.1.2.2.1 ∧ (sStep kd tg fi se th pd px S).2.2.2.1.2.2.2 = 0) ∨ ((sStep kd tg fi se th pd px S).2.2.2.1.1 = S.2.2.2.1.1 ∧ (sStep kd tg fi se th pd px S).2.2.2.1.2.2.1 = S.2.2.2.1.2.2.1 + 1 ∧ (sStep kd tg fi se th pd px S).2.2.2.1.2.2.2 = 1) := by
  unfold sStep
  have key : ∀ Z : SyT, Z.2.2.2.1.1 = S.2.2.2.1.1 → Z.2.2.2.1.2.2.1 = S.2.2.2.1.2.2.1 → ((sGo pd px Z).2.2.2.1.1 = S.2.2.2.1.1 + 1 ∧ (sGo pd px Z).2.2.2.1.2.2.1 = S.2.2.2.1.2.2.1 ∧ (sGo pd px Z).2.2.2.1.2.2.2 = 0) ∨ ((sGo pd px Z).2.2.2.1.1 = S.2.2.2.1.1 ∧ (sGo pd px Z).2.2.2.1.2.2.1 = S.2.2.2.1.2.2.1 + 1 ∧ (sGo pd px Z).2.2.2.1.2.2.2 = 1) := by
    intro Z h1 h2
    rcases sGo_ct pd px Z with ⟨a, b, c, -, -⟩ | ⟨a, b, c, -, -⟩
    · exact Or.inl ⟨by rw [a, h1], by rw [b, h2], c⟩
    · exact Or.inr ⟨by rw [a, h1], by rw [b, h2], c⟩
  split
  · exact key _ (sBegin_ct kd tg fi se S).1 (sBegin_ct kd tg fi se S).2.1
  · have h := sTake_ct kd tg fi se th (sAns S)
    rw [(sAns_ct S).1] at h
    exact key _ h.1 h.2.1
/-- the count of what was opened stays in its bounds -/
theorem sStep_oc (S : SyT) (h0 : ¬ S.2.2.2.2.2 < 0) (h1 : ¬ 16 < S.2.2.2.2.2) : ¬ (sStep kd tg fi se th pd px S).2.2.2.2.2 < 0 ∧ ¬ 16 < (sStep kd tg fi se th pd px S).2.2.2.2.2 := by
  have key : ∀ Z : SyT, (sGo pd px Z).2.2.2.2.2 = Z.2.2.2.2.2 := by
    intro Z
    rcases sGo_ct pd px Z with ⟨-, -, -, -, a⟩ | ⟨-, -, -, -, a⟩ <;> rw [a]
  unfold sStep
  rw [key]
  split
  · rw [(sBegin_ct kd tg fi se S).2.2]
    exact ⟨h0, h1⟩
  · have h := (sTake_ct kd tg fi se th (sAns S)).2.2
    rw [(sAns_ct S).2] at h
    rcases h with h | ⟨h2, h⟩
    · rw [h]; exact ⟨h0, h1⟩
    · rw [h]
      obtain ⟨j, hj, e⟩ := nI_of h0
      rw [e] at h2 ⊢
      have hj2 : j < 16 := by
        apply Nat.lt_of_not_le
        intro q
        exact h2 (nI_le (a := 16) q hj)
      rw [← nI_succ]
      exact ⟨nI_pos (by omega), nI_nlt (a := 16) (b := j + 1) (by omega) (by omega)⟩
/-- what the row of tasks does openly -/
def oRun (kd tg fi se th : Nat → Int32) : Nat → Nat → (Nat → Int32) × ((Nat → Int32) × Int32) → (Nat → Int32) × ((Nat → Int32) × Int32)
  | 0, _, u => u
  | n + 1, j, u => oRun kd tg fi se th n (j + 1) (oTask (kd j) (tg j) (fi j) (se j) (th j) u.1, oOpen (kd j) (opv u.1 (fi j)) u.2)
/-- a task of a kind that there is comes to its end -/
theorem tk_any (hp : PadsOk pd px) (S : SyT) (hw : S.2.2.2.1.2.2.2 = 0) {j : Nat} (hj : S.2.2.2.1.1 = nI j) (hj2 : j < 2 ^ 31) (hk : kd j = 0 ∨ kd j = 1 ∨ kd j = 2 ∨ kd j = 3 ∨ kd j = 4 ∨ kd j = 5 ∨ kd j = 6 ∨ kd j = 7) : ∃ n, Tk (sStep kd tg fi se th pd px) (kd j) (tg j) (fi j) (se j) (th j) S n := by
  obtain ⟨g, ⟨L, R, P, N, B⟩, ⟨W, M, Q, cs, cr⟩, ⟨tk, sg, sn, wa⟩, op, oc⟩ := S
  have hw' : wa = 0 := hw
  have hj' : tk = nI j := hj
  have e : tk.toNatClampNeg = j := by rw [hj', nI_clamp hj2]
  subst hw'
  rcases hk with h | h | h | h | h | h | h | h
  · refine ⟨1, ?_⟩; have := tk_copy (kd := kd) (tg := tg) (fi := fi) (se := se) (th := th) (pd := pd) (px := px) (g := g) (L := L) (R := R) (P := P) (N := N) (B := B) (W := W) (M := M) (Q := Q) (cs := cs) (cr := cr) (tk := tk) (sg := sg) (sn := sn) (oc := oc) (op := op) (by rw [e]; exact h); rw [e] at this; rw [h]; exact this
  · refine ⟨1, ?_⟩; have := tk_sum (kd := kd) (tg := tg) (fi := fi) (se := se) (th := th) (pd := pd) (px := px) (g := g) (L := L) (R := R) (P := P) (N := N) (B := B) (W := W) (M := M) (Q := Q) (cs := cs) (cr := cr) (tk := tk) (sg := sg) (sn := sn) (oc := oc) (op := op) (k := 1) (by rw [e]; exact h) (Or.inl rfl); rw [e] at this; rw [h]; exact this
  · refine ⟨1, ?_⟩; have := tk_sum (kd := kd) (tg := tg) (fi := fi) (se := se) (th := th) (pd := pd) (px := px) (g := g) (L := L) (R := R) (P := P) (N := N) (B := B) (W := W) (M := M) (Q := Q) (cs := cs) (cr := cr) (tk := tk) (sg := sg) (sn := sn) (oc := oc) (op := op) (k := 2) (by rw [e]; exact h) (Or.inr rfl); rw [e] at this; rw [h]; exact this
  · refine ⟨2, ?_⟩; have := tk_mul (kd := kd) (tg := tg) (fi := fi) (se := se) (th := th) (pd := pd) (px := px) (g := g) (L := L) (R := R) (P := P) (N := N) (B := B) (W := W) (M := M) (Q := Q) (cs := cs) (cr := cr) (tk := tk) (sg := sg) (sn := sn) (oc := oc) (op := op) hp (by rw [e]; exact h); rw [e] at this; rw [h]; exact this
  · refine ⟨20, ?_⟩; have := tk_less (kd := kd) (tg := tg) (fi := fi) (se := se) (th := th) (pd := pd) (px := px) (g := g) (L := L) (R := R) (P := P) (N := N) (B := B) (W := W) (M := M) (Q := Q) (cs := cs) (cr := cr) (tk := tk) (sg := sg) (sn := sn) (oc := oc) (op := op) hp (by rw [e]; exact h); rw [e] at this; rw [h]; exact this
  · refine ⟨4, ?_⟩; have := tk_choose (kd := kd) (tg := tg) (fi := fi) (se := se) (th := th) (pd := pd) (px := px) (g := g) (L := L) (R := R) (P := P) (N := N) (B := B) (W := W) (M := M) (Q := Q) (cs := cs) (cr := cr) (tk := tk) (sg := sg) (sn := sn) (oc := oc) (op := op) hp (by rw [e]; exact h); rw [e] at this; rw [h]; exact this
  · refine ⟨21, ?_⟩; have := tk_swap (kd := kd) (tg := tg) (fi := fi) (se := se) (th := th) (pd := pd) (px := px) (g := g) (L := L) (R := R) (P := P) (N := N) (B := B) (W := W) (M := M) (Q := Q) (cs := cs) (cr := cr) (tk := tk) (sg := sg) (sn := sn) (oc := oc) (op := op) hp (by rw [e]; exact h); rw [e] at this; rw [h]; exact this
  · refine ⟨2, ?_⟩; have := tk_open (kd := kd) (tg := tg) (fi := fi) (se := se) (th := th) (pd := pd) (px := px) (g := g) (L := L) (R := R) (P := P) (N := N) (B := B) (W := W) (M := M) (Q := Q) (cs := cs) (cr := cr) (tk := tk) (sg := sg) (sn := sn) (oc := oc) (op := op) (by rw [e]; exact h); rw [e] at this; rw [h]; exact this
def okK (k : Int32) : Prop := k = 0 ∨ k = 1 ∨ k = 2 ∨ k = 3 ∨ k = 4 ∨ k = 5 ∨ k = 6 ∨ k = 7
/-- tasks from place j on, n of them -/
theorem tk_row (hp : PadsOk pd px) : ∀ (n j : Nat) (S : SyT), S.2.2.2.1.2.2.2 = 0 → S.2.2.2.1.1 = nI j → j + n < 2 ^ 31 → (∀ i, i < j + n → okK (kd i)) →
    ∃ K, K ≤ 21 * n ∧ (sIt (sStep kd tg fi se th pd px) K S).2.2.2.1.1 = nI (j + n) ∧ (sIt (sStep kd tg fi se th pd px) K S).2.2.2.1.2.2.2 = 0 ∧
      (gV (sIt (sStep kd tg fi se th pd px) K S).1, ((sIt (sStep kd tg fi se th pd px) K S).2.2.2.2.1 0, (sIt (sStep kd tg fi se th pd px) K S).2.2.2.2.2)) = oRun kd tg fi se th n j (gV S.1, (S.2.2.2.2.1 0, S.2.2.2.2.2)) ∧
      ∀ t, t < K → ∃ i, j ≤ i ∧ i < j + n ∧ (sIt (sStep kd tg fi se th pd px) t S).2.2.2.1.1 = nI i := by
  intro n
  induction n with
  | zero => intro j S hw hj _ _; exact ⟨0, Nat.le_refl _, hj, hw, rfl, fun t h => absurd h (Nat.not_lt_zero t)⟩
  | succ n ih =>
    intro j S hw hj hb hk
    obtain ⟨m, t1, t2, t3, t4, t5, t6, t7⟩ := tk_any (kd := kd) (tg := tg) (fi := fi) (se := se) (th := th) hp S hw hj (by omega) (hk j (by omega))
    rw [hj, ← nI_succ] at t3
    obtain ⟨K, k1, k2, k3, k4, k5⟩ := ih (j + 1) (sIt (sStep kd tg fi se th pd px) m S) t4 t3 (by omega) (fun i hi => hk i (by omega))
    refine ⟨m + K, by omega, ?_, ?_, ?_, fun t ht => ?_⟩
    · rw [sIt_add, k2]; congr 1; omega
    · rw [sIt_add]; exact k3
    · rw [sIt_add, k4, t5, t6]; rfl
    · by_cases h : t < m
      · by_cases h0 : t = 0
        · subst h0; exact ⟨j, Nat.le_refl _, by omega, hj⟩
        · have := t7 t (by omega) h
          exact ⟨j, Nat.le_refl _, by omega, by rw [this.1]; exact hj⟩
      · obtain ⟨i, i1, i2, i3⟩ := k5 (t - m) (by omega)
        refine ⟨i, by omega, by omega, ?_⟩
        have e : t = m + (t - m) := by omega
        rw [e, sIt_add]
        exact i3
/-- what a clerk has sent, counted -/
def snN (f : SyT → SyT) (S : SyT) : Nat → Nat
  | 0 => 0
  | t + 1 => snN f S t + (if (sIt f (t + 1) S).2.2.2.1.2.2.2 = 0 then 0 else 1)
def wtN (f : SyT → SyT) (S : SyT) (t : Nat) : Bool := decide (¬ (sIt f t S).2.2.2.1.2.2.2 = 0)
theorem seq_C {S : SyT} {K : Nat} (h0 : S.2.2.2.1.2.2.2 = 0) (hK : (sIt (sStep kd tg fi se th pd px) K S).2.2.2.1.2.2.2 = 0) : as_C K (wtN (sStep kd tg fi se th pd px) S) (snN (sStep kd tg fi se th pd px) S) := by
  refine ⟨rfl, ?_, ?_, fun k _ => ?_⟩
  · simp [wtN, sIt, h0]
  · simp [wtN, hK]
  · show snN _ S k + _ = _
    by_cases h : (sIt (sStep kd tg fi se th pd px) (k + 1) S).2.2.2.1.2.2.2 = 0
    · rw [if_pos h, if_neg (by simp [wtN, h])]
    · rw [if_neg h, if_pos (by simp [wtN, h])]
theorem seq_sn {S : SyT} (h0 : S.2.2.2.1.2.2.1 = 0) : ∀ t, (sIt (sStep kd tg fi se th pd px) t S).2.2.2.1.2.2.1 = nI (snN (sStep kd tg fi se th pd px) S t)
  | 0 => by show S.2.2.2.1.2.2.1 = nI 0; rw [h0, nI_0]
  | t + 1 => by
    have ih := seq_sn h0 t
    rw [sIt_s]
    show _ = nI (snN _ S t + (if (sIt _ (t + 1) S).2.2.2.1.2.2.2 = 0 then 0 else 1))
    rw [sIt_s]
    rcases sStep_ct (kd := kd) (tg := tg) (fi := fi) (se := se) (th := th) (pd := pd) (px := px) (sIt (sStep kd tg fi se th pd px) t S) with ⟨-, a, b⟩ | ⟨-, a, b⟩
    · rw [a, b, ih, if_pos rfl]; rfl
    · rw [a, b, ih, if_neg (by decide), nI_succ]
theorem seq_le (f : SyT → SyT) (S : SyT) : ∀ t, snN f S t ≤ t
  | 0 => Nat.le_refl _
  | t + 1 => by
    have := seq_le f S t
    show snN f S t + _ ≤ t + 1
    split <;> omega
theorem seq_wa {S : SyT} (h0 : S.2.2.2.1.2.2.2 = 0) : ∀ t, (sIt (sStep kd tg fi se th pd px) t S).2.2.2.1.2.2.2 = 0 ∨ (sIt (sStep kd tg fi se th pd px) t S).2.2.2.1.2.2.2 = 1
  | 0 => Or.inl h0
  | t + 1 => by
    rw [sIt_s]
    rcases sStep_ct (kd := kd) (tg := tg) (fi := fi) (se := se) (th := th) (pd := pd) (px := px) (sIt (sStep kd tg fi se th pd px) t S) with ⟨-, -, b⟩ | ⟨-, -, b⟩
    · exact Or.inl b
    · exact Or.inr b
theorem seq_oc {S : SyT} (h0 : ¬ S.2.2.2.2.2 < 0) (h1 : ¬ 16 < S.2.2.2.2.2) : ∀ t, ¬ (sIt (sStep kd tg fi se th pd px) t S).2.2.2.2.2 < 0 ∧ ¬ 16 < (sIt (sStep kd tg fi se th pd px) t S).2.2.2.2.2
  | 0 => ⟨h0, h1⟩
  | t + 1 => by
    rw [sIt_s]
    exact sStep_oc _ (seq_oc h0 h1 t).1 (seq_oc h0 h1 t).2
end SEQ
