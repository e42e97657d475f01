/-! the office, move by move: messages in any order come to the same end -/
theorem Ct.room {l : Launch} {G : Gt} {y : MethodName} {bc : ByteArray} {mL : Nat} {ret : Option FieldType} {rm rm' : Room} {av : List Value} {w : va_W} {mc ms : Nat} {post : Option Value → va_W → Prop} (hM : Ct l G y bc mL ret rm av w mc ms post) (hf : rm.frames ≤ rm'.frames) (hl : rm.locals ≤ rm'.locals) (hc : rm.cells ≤ rm'.cells) (hs : rm.slots ≤ rm'.slots) : Ct l G y bc mL ret rm' av w mc ms post := by
  intro sz p e h1 h2 h3 s m args below h4 h5 hP hK
  obtain ⟨a1, a2, a3, a4, a5, a6, a7, a8⟩ := (Spec.appliesLoose_iff h4).mp h5
  refine hM sz p e h1 h2 h3 s m args below h4 ((Spec.appliesLoose_iff h4).mpr ⟨a1, a2, a3, a4, a5, a6, ?_, a8⟩) hP hK
  have a7 : s.hasRoom e.platform rm' = true := a7
  show s.hasRoom e.platform rm = true
  simp only [State.hasRoom, Bool.and_eq_true, decide_eq_true_eq] at a7 ⊢
  obtain ⟨⟨⟨⟨r1, r2, r3, r4, r5, r6⟩, r7⟩, r8⟩, r9⟩ := a7
  exact ⟨⟨⟨⟨by omega, by omega, by omega, by omega, by omega, r6⟩, by omega⟩, by omega⟩, r9⟩
abbrev sF (y : ScT) (pd px : Nat → Int32 → Int64) : SyT → SyT := sStep y.1 y.2.1 y.2.2.1 y.2.2.2.1 y.2.2.2.2.1 pd px
abbrev stT (y : ScT) (pd px : Nat → Int32 → Int64) (S0 : SyT) (t : Nat) : SyT := sIt (sF y pd px) t S0
def prF (y : ScT) (pd px : Nat → Int32 → Int64) (S0 : SyT) (j t : Nat) : Int64 := e3 j (stT y pd px S0 t).2.1.2.2.1
def ScOk (y : ScT) (n : Nat) : Prop := y.2.2.2.2.2.1 = nI n ∧ n ≤ 132 ∧ (∀ j, ¬ y.2.2.1 j < 0) ∧ (∀ j, ¬ y.2.2.2.1 j < 0) ∧ (∀ j, ¬ y.2.2.2.2.1 j < 0) ∧ (∀ j, vp_in (y.2.1 j) 34) ∧ (∀ j, y.1 j = 6 → vp_in (y.2.2.2.1 j) 34)
def PqOk (pq : Nat → Int64 × Int64 × Int32) (pd px : Nat → Int32 → Int64) : Prop := (∀ i, i < 3 → ∀ k, o_Pads_pad_r (pq i).1 (pq i).2.2 k - o_Pads_pad_r (pq i).2.1 (pq i).2.2 k = pd i k) ∧ (∀ i, i < 3 → ∀ k, o_Pads_pad_r (pq i).1 (pq i).2.2 k ^^^ o_Pads_pad_r (pq i).2.1 (pq i).2.2 k = px i k)
def SqOk (y : ScT) (n : Nat) (pd px : Nat → Int32 → Int64) (S0 : SyT) (K : Nat) : Prop := S0.2.2.2.1.2.2.2 = 0 ∧ S0.2.2.2.1.2.2.1 = 0 ∧ ¬ S0.2.2.2.2.2 < 0 ∧ ¬ 16 < S0.2.2.2.2.2 ∧ K ≤ 21 * n ∧ (stT y pd px S0 K).2.2.2.1.1 = nI n ∧ (stT y pd px S0 K).2.2.2.1.2.2.2 = 0 ∧ ∀ t, t < K → ∃ i, i < n ∧ (stT y pd px S0 t).2.2.2.1.1 = nI i
def rsO (y : ScT) (pq : Nat → Int64 × Int64 × Int32) (bn : Nat → Nat → Int32) (bw : Nat → Nat → Int64) (i : Nat) : RsT := (y, (bn i, bw i), pq i)
def ofB (G : Gt) (h0 : Nat) (kp : Nat → Nat) (h2 : Nat) (ch : Int64) (cf : Nat → Option Nat) (P : PoT) (a0 a1 a2 : Nat → Nat) (S : Nat → CkT) (r : Nat → RsT) : va_W := bj [[(h0, .inr (5, [.ref (kp 0), .ref h2, .long ch]))], [(h2, .inl (G.2 4, 3, .inr (.inr (.inr (.inr cf)))))], poB G kp P, ckF G a0 0 (S 0) (r 0), ckF G a1 1 (S 1) (r 1), ckF G a2 2 (S 2) (r 2)]
/-- how far the three are, what lies in their boxes and under way -/
def IvO (y : ScT) (pd px : Nat → Int32 → Int64) (S0 : SyT) (K : Nat) (k : Nat → Nat) (bn : Nat → Nat → Int32) (bw : Nat → Nat → Int64) (cnt : Nat) (P : PoT) : Prop :=
  P.1 = nI cnt ∧ as_I K (wtN (sF y pd px) S0) (snN (sF y pd px) S0) (prF y pd px S0) k bn bw cnt P.2.1 P.2.2.1 P.2.2.2
def kSt (y : ScT) (pd px : Nat → Int32 → Int64) (S0 : SyT) (k : Nat → Nat) (i : Nat) : CkT := vwC i (stT y pd px S0 (k i))
theorem vwC_ct (i : Nat) (S : SyT) : (vwC i S).2.2.2.2.1 = S.2.2.2.1 ∧ (vwC i S).2.2.2.2.2.2 = S.2.2.2.2.2 ∧ (vwC i S).2.2.1.2.2.1.1 = e3 i S.2.1.2.2.1 := by
  obtain ⟨g, ⟨L, R, P, N, B⟩, ⟨W, M, Q, cs, cr⟩, ct, op, oc⟩ := S
  exact ⟨rfl, rfl, rfl⟩
theorem nI_and7 {n : Nat} (h : n < 2 ^ 31) : (nI n &&& 7).toNatClampNeg = n % 8 := by
  have e : nI n &&& 7 = nI (n % 8) := pk_andN (by omega) 3 (by decide)
  rw [e, nI_clamp (by omega)]
section OFF
variable {y : ScT} {n : Nat} {pq : Nat → Int64 × Int64 × Int32} {pd px : Nat → Int32 → Int64} {S0 : SyT} {K : Nat} {k : Nat → Nat} {bn : Nat → Nat → Int32} {bw : Nat → Nat → Int64} {cnt : Nat} {P : PoT}
theorem sq_small (hS : ScOk y n) (hQ : SqOk y n pd px S0 K) (t : Nat) (ht : t ≤ K) : snN (sF y pd px) S0 t < 2 ^ 31 := by
  have h1 := seq_le (sF y pd px) S0 t
  have h2 := hQ.2.2.2.2.1
  have h3 := hS.2.1
  omega
theorem rdy_iff (hS : ScOk y n) (hQ : SqOk y n pd px S0 K) {i t : Nat} (ht : t ≤ K) (b : Nat → Int32) (bx : Nat → Int64) (q : Int64 × Int64 × Int32) : ¬ cnS (vwC i (stT y pd px S0 t)) (y, (b, bx), q) = 0 ↔ t < K ∧ (wtN (sF y pd px) S0 t = true → b (snN (sF y pd px) S0 t % 8) = nI (snN (sF y pd px) S0 t)) := by
  have hct := (vwC_ct i (stT y pd px S0 t)).1
  have hsn := seq_sn (kd := y.1) (tg := y.2.1) (fi := y.2.2.1) (se := y.2.2.2.1) (th := y.2.2.2.2.1) (pd := pd) (px := px) hQ.2.1 t
  have hsm := sq_small hS hQ t ht
  unfold cnS o_Clerk_canStep_r
  rw [hct]
  show ¬ (if y.2.2.2.2.2.1 ≤ (stT y pd px S0 t).2.2.2.1.1 then (0 : Int32) else if (stT y pd px S0 t).2.2.2.1.2.2.2 = 0 then 1 else if b ((stT y pd px S0 t).2.2.2.1.2.2.1 &&& 7).toNatClampNeg = (stT y pd px S0 t).2.2.2.1.2.2.1 then 1 else 0) = 0 ↔ _
  rw [hS.1]
  by_cases hK : t = K
  · subst hK
    rw [hQ.2.2.2.2.2.1, if_pos (Int32.le_refl _)]
    constructor
    · intro h; exact absurd rfl h
    · intro h; omega
  · obtain ⟨j, hj, ej⟩ := hQ.2.2.2.2.2.2.2 t (by omega)
    have hn := hS.2.1
    rw [ej, if_neg (nI_ge hj (by omega))]
    by_cases hw : (stT y pd px S0 t).2.2.2.1.2.2.2 = 0
    · rw [if_pos hw]
      constructor
      · intro _
        exact ⟨by omega, fun h => absurd h (by simp [wtN, hw])⟩
      · intro _; decide
    · rw [if_neg hw]
      have hsn : (stT y pd px S0 t).2.2.2.1.2.2.1 = nI (snN (sF y pd px) S0 t) := hsn
      rw [hsn, nI_and7 hsm]
      by_cases hb : b (snN (sF y pd px) S0 t % 8) = nI (snN (sF y pd px) S0 t)
      · rw [if_pos hb]
        exact ⟨fun _ => ⟨by omega, fun _ => hb⟩, fun _ => by decide⟩
      · rw [if_neg hb]
        constructor
        · intro h; exact absurd rfl h
        · intro h; exact absurd (h.2 (by simp [wtN, hw])) hb
theorem ckStep_free {w : Int32} {kd tg fi se th : Nat → Int32} {p x : Int32 → Int64} {a a' : Int64} {S : CkT} (h : S.2.2.2.2.1.2.2.2 = 0) : ckStep w kd tg fi se th p x a S = ckStep w kd tg fi se th p x a' S := by
  unfold ckStep
  rw [if_pos h, if_pos h]
theorem ckZ_free {w : Int32} {kd tg fi se th : Nat → Int32} {a a' : Int64} {S : CkT} (h : S.2.2.2.2.1.2.2.2 = 0) : ckZ w kd tg fi se th a S = ckZ w kd tg fi se th a' S := by
  unfold ckZ
  rw [if_pos h, if_pos h]
theorem vw_Z {i : Nat} (h : i < 3) (kd tg fi se th : Nat → Int32) (S : SyT) : ckZ (w3 i) kd tg fi se th (e3 (as_nx i) S.2.1.2.2.1) (vwC i S) = vwC i (if S.2.2.2.1.2.2.2 = 0 then sBegin kd tg fi se S else sTake kd tg fi se th (sAns S)) := by
  unfold ckZ
  rw [(vwC_ct i S).1]
  by_cases h0 : S.2.2.2.1.2.2.2 = 0
  · rw [if_pos h0, if_pos h0, vw_begin h]
  · rw [if_neg h0, if_neg h0, vw_ans h, vw_take h]
/-- one clerk goes on -/
theorem go_on (hS : ScOk y n) (hQ : SqOk y n pd px S0 K) (hI : IvO y pd px S0 K k bn bw cnt P) {i : Nat} (hi : i < 3) (hr : k i < K ∧ (wtN (sF y pd px) S0 (k i) = true → bn i (snN (sF y pd px) S0 (k i) % 8) = nI (snN (sF y pd px) S0 (k i)))) :
    stS (w3 i) (pd i) (px i) (kSt y pd px S0 k i) (rsO y pq bn bw i) = kSt y pd px S0 (fun j => if j = i then k i + 1 else k j) i ∧
    ∃ cnt', cnt' ≤ cnt + 1 ∧ IvO y pd px S0 K (fun j => if j = i then k i + 1 else k j) bn bw cnt' (stP (w3 i) (pd i) (px i) (kSt y pd px S0 k i) (rsO y pq bn bw i) P) := by
  have hKK := hQ.2.2.2.2.2.2.1
  have hC : as_C K (wtN (sF y pd px) S0) (snN (sF y pd px) S0) := seq_C (kd := y.1) (tg := y.2.1) (fi := y.2.2.1) (se := y.2.2.2.1) (th := y.2.2.2.2.1) (pd := pd) (px := px) hQ.1 hKK
  have hsK := sq_small hS hQ K (Nat.le_refl _)
  obtain ⟨q1, q2, q3⟩ := as_step hC hsK hI.2 hi hr.1 hr.2
  have few := as_few hC hI.2
  have hsn := seq_sn (kd := y.1) (tg := y.2.1) (fi := y.2.2.1) (se := y.2.2.2.1) (th := y.2.2.2.2.1) (pd := pd) (px := px) hQ.2.1
  have hki : k i ≤ K := by omega
  have hcc := vwC_ct i (stT y pd px S0 (k i))
  -- the word that it takes
  have ha : stA (kSt y pd px S0 k i) (rsO y pq bn bw i) = bw i (snN (sF y pd px) S0 (k i) % 8) := by
    show bw i ((vwC i (stT y pd px S0 (k i))).2.2.2.2.1.2.2.1 &&& 7).toNatClampNeg = _
    rw [hcc.1, hsn (k i), nI_and7 (sq_small hS hQ _ hki)]
  have eS : stS (w3 i) (pd i) (px i) (kSt y pd px S0 k i) (rsO y pq bn bw i) = vwC i (stT y pd px S0 (k i + 1)) := by
    show ckStep (w3 i) y.1 y.2.1 y.2.2.1 y.2.2.2.1 y.2.2.2.2.1 (pd i) (px i) (stA (kSt y pd px S0 k i) (rsO y pq bn bw i)) (vwC i (stT y pd px S0 (k i))) = _
    rw [ha]
    have e : ckStep (w3 i) y.1 y.2.1 y.2.2.1 y.2.2.2.1 y.2.2.2.2.1 (pd i) (px i) (bw i (snN (sF y pd px) S0 (k i) % 8)) (vwC i (stT y pd px S0 (k i))) = ckStep (w3 i) y.1 y.2.1 y.2.2.1 y.2.2.2.1 y.2.2.2.2.1 (pd i) (px i) (e3 (as_nx i) (stT y pd px S0 (k i)).2.1.2.2.1) (vwC i (stT y pd px S0 (k i))) := by
      by_cases hw : (stT y pd px S0 (k i)).2.2.2.1.2.2.2 = 0
      · exact ckStep_free (by rw [hcc.1]; exact hw)
      · rw [q1 (by simp [wtN, hw])]; rfl
    rw [e, vw_step hi]
    rfl
  have eZ : stZ (w3 i) (kSt y pd px S0 k i) (rsO y pq bn bw i) = vwC i (if (stT y pd px S0 (k i)).2.2.2.1.2.2.2 = 0 then sBegin y.1 y.2.1 y.2.2.1 y.2.2.2.1 (stT y pd px S0 (k i)) else sTake y.1 y.2.1 y.2.2.1 y.2.2.2.1 y.2.2.2.2.1 (sAns (stT y pd px S0 (k i)))) := by
    show ckZ (w3 i) y.1 y.2.1 y.2.2.1 y.2.2.2.1 y.2.2.2.2.1 (stA (kSt y pd px S0 k i) (rsO y pq bn bw i)) (vwC i (stT y pd px S0 (k i))) = _
    rw [ha]
    have e : ckZ (w3 i) y.1 y.2.1 y.2.2.1 y.2.2.2.1 y.2.2.2.2.1 (bw i (snN (sF y pd px) S0 (k i) % 8)) (vwC i (stT y pd px S0 (k i))) = ckZ (w3 i) y.1 y.2.1 y.2.2.1 y.2.2.2.1 y.2.2.2.2.1 (e3 (as_nx i) (stT y pd px S0 (k i)).2.1.2.2.1) (vwC i (stT y pd px S0 (k i))) := by
      by_cases hw : (stT y pd px S0 (k i)).2.2.2.1.2.2.2 = 0
      · exact ckZ_free (by rw [hcc.1]; exact hw)
      · rw [q1 (by simp [wtN, hw])]; rfl
    rw [e, vw_Z hi]
  have hk' : (fun j => if j = i then k i + 1 else k j) i = k i + 1 := if_pos rfl
  refine ⟨by unfold kSt; rw [hk']; exact eS, ?_⟩
  generalize hZ : (if (stT y pd px S0 (k i)).2.2.2.1.2.2.2 = 0 then sBegin y.1 y.2.1 y.2.2.1 y.2.2.2.1 (stT y pd px S0 (k i)) else sTake y.1 y.2.1 y.2.2.1 y.2.2.2.1 y.2.2.2.2.1 (sAns (stT y pd px S0 (k i)))) = Z at eZ
  have hgo : stT y pd px S0 (k i + 1) = sGo pd px Z := by
    show sStep y.1 y.2.1 y.2.2.1 y.2.2.2.1 y.2.2.2.2.1 pd px (stT y pd px S0 (k i)) = _
    unfold sStep
    rw [hZ]
  have hZc := vwC_ct i Z
  have hc1 : P.1 = nI cnt := hI.1
  rcases sGo_ct pd px Z with ⟨b1, b2, b3, b4, b5⟩ | ⟨b1, b2, b3, b4, b5⟩
  · -- a task's end: nothing is sent
    refine ⟨cnt, by omega, ?_⟩
    have e5 : (stZ (w3 i) (kSt y pd px S0 k i) (rsO y pq bn bw i)).2.2.2.2.1.2.1 = 5 := by rw [eZ, hZc.1]; exact b4
    have eP : stP (w3 i) (pd i) (px i) (kSt y pd px S0 k i) (rsO y pq bn bw i) P = P := by
      unfold stP
      rw [if_pos e5, if_pos e5, if_pos e5, if_pos e5]
    rw [eP]
    exact ⟨hI.1, q3 (by simp [wtN, hgo, b3])⟩
  · refine ⟨cnt + 1, Nat.le_refl _, ?_⟩
    have e5 : ¬ (stZ (w3 i) (kSt y pd px S0 k i) (rsO y pq bn bw i)).2.2.2.2.1.2.1 = 5 := by rw [eZ, hZc.1]; exact b4
    have esn : (stZ (w3 i) (kSt y pd px S0 k i) (rsO y pq bn bw i)).2.2.2.2.1.2.2.1 + 1 = nI (snN (sF y pd px) S0 (k i + 1)) := by
      rw [eZ, hZc.1, ← b2, ← hgo]
      exact hsn (k i + 1)
    have epr : (stS (w3 i) (pd i) (px i) (kSt y pd px S0 k i) (rsO y pq bn bw i)).2.2.1.2.2.1.1 = prF y pd px S0 i (k i + 1) := by
      rw [eS, (vwC_ct i _).2.2]; rfl
    have erc : rcv (w3 i) = nI (as_pv i) := i3 (P := fun i => rcv (w3 i) = nI (as_pv i)) hi (by decide) (by decide) (by decide)
    have ecn : P.1.toNatClampNeg = cnt := by rw [hc1, nI_clamp (by omega)]
    have eP : stP (w3 i) (pd i) (px i) (kSt y pd px S0 k i) (rsO y pq bn bw i) P = (nI (cnt + 1), upd P.2.1 cnt (nI (as_pv i)), upd P.2.2.1 cnt (nI (snN (sF y pd px) S0 (k i + 1))), vp_updL P.2.2.2 cnt (prF y pd px S0 i (k i + 1))) := by
      unfold stP
      rw [if_neg e5, if_neg e5, if_neg e5, if_neg e5, esn, epr, erc, ecn, hc1, ← nI_succ]
    rw [eP]
    exact ⟨rfl, q2 (by simp [wtN, hgo, b3])⟩
/-- a message comes -/
theorem dl_on (hS : ScOk y n) (hQ : SqOk y n pd px S0 K) (hI : IvO y pd px S0 K k bn bw cnt P) {e : Nat} (he : e < cnt) :
    ∃ i, i < 3 ∧ P.2.1 e = nI i ∧ ∃ bn' bw', IvO y pd px S0 K k bn' bw' (cnt - 1) (poDl P e) ∧ ∀ j, j < 3 → rsO y pq bn' bw' j = if j = i then rsRc (rsO y pq bn bw i) (P.2.2.1 e) (P.2.2.2 e) else rsO y pq bn bw j := by
  have hKK := hQ.2.2.2.2.2.2.1
  have hC : as_C K (wtN (sF y pd px) S0) (snN (sF y pd px) S0) := seq_C (kd := y.1) (tg := y.2.1) (fi := y.2.2.1) (se := y.2.2.2.1) (th := y.2.2.2.2.1) (pd := pd) (px := px) hQ.1 hKK
  have hsK := sq_small hS hQ K (Nat.le_refl _)
  have few := as_few hC hI.2
  obtain ⟨i, m, h1, h2, h3, h4, h5, h6⟩ := as_deliver hC hsK hI.2 he
  have ec : (P.1 - 1).toNatClampNeg = cnt - 1 := by
    rw [hI.1]
    obtain ⟨c', rfl⟩ : ∃ c', cnt = c' + 1 := ⟨cnt - 1, by omega⟩
    rw [nI_pred, nI_clamp (by omega)]
    rfl
  refine ⟨i, h1, h4, fun j => if j = i then upd (bn i) (m % 8) (nI m) else bn j, fun j => if j = i then vp_updL (bw i) (m % 8) (P.2.2.2 e) else bw j, ⟨?_, ?_⟩, fun j hj => ?_⟩
  · show P.1 - 1 = nI (cnt - 1)
    rw [hI.1]
    obtain ⟨c', rfl⟩ : ∃ c', cnt = c' + 1 := ⟨cnt - 1, by omega⟩
    rw [nI_pred]
    rfl
  · show as_I K _ _ _ k _ _ (cnt - 1) (upd P.2.1 e (P.2.1 (P.1 - 1).toNatClampNeg)) (upd P.2.2.1 e (P.2.2.1 (P.1 - 1).toNatClampNeg)) (vp_updL P.2.2.2 e (P.2.2.2 (P.1 - 1).toNatClampNeg))
    rw [ec]
    exact h6
  · by_cases hji : j = i
    · subst hji
      rw [if_pos rfl]
      show (y, ((if j = j then upd (bn j) (m % 8) (nI m) else bn j), (if j = j then vp_updL (bw j) (m % 8) (P.2.2.2 e) else bw j)), pq j) = (y, (upd (bn j) ((P.2.2.1 e &&& 7).toNatClampNeg) (P.2.2.1 e), vp_updL (bw j) ((P.2.2.1 e &&& 7).toNatClampNeg) (P.2.2.2 e)), pq j)
      rw [if_pos rfl, if_pos rfl, h5, nI_and7 (by omega)]
    · rw [if_neg hji]
      show (y, ((if j = i then upd (bn i) (m % 8) (nI m) else bn j), (if j = i then vp_updL (bw i) (m % 8) (P.2.2.2 e) else bw j)), pq j) = (y, (bn j, bw j), pq j)
      rw [if_neg hji, if_neg hji]
end OFF
