/-! the three clerks side by side: a number in three parts; clerk i sees part i and the next one -/
abbrev T3 : Type := Int64 × Int64 × Int64
def w3 (i : Nat) : Int32 := if i = 0 then 0 else if i = 1 then 1 else 2
def vw (i : Nat) (t : T3) : PT := if i = 0 then (t.1, t.2.1) else if i = 1 then (t.2.1, t.2.2) else (t.2.2, t.1)
def e3 (i : Nat) (t : T3) : Int64 := if i = 0 then t.1 else if i = 1 then t.2.1 else t.2.2
def tAdd (a b : T3) (t : Int64) : T3 := (a.1 + t * b.1, a.2.1 + t * b.2.1, a.2.2 + t * b.2.2)
def tXor (a b : T3) : T3 := (a.1 ^^^ b.1, a.2.1 ^^^ b.2.1, a.2.2 ^^^ b.2.2)
def tAnd (a : T3) (m : Int64) : T3 := (a.1 &&& m, a.2.1 &&& m, a.2.2 &&& m)
def tFlip (a : T3) (m : Int64) : T3 := (a.1 ^^^ m, a.2.1, a.2.2)
def tKnown (n : Int64) : T3 := (n, 0, 0)
def tK0 (a : T3) : T3 := (a.1, 0, 0)
def tK1 (a : T3) : T3 := (0, a.2.1, 0)
def tK2 (a : T3) : T3 := (0, 0, a.2.2)
def tD0 (a : T3) : T3 := (0, a.2.1, a.2.2)
def tD1 (a : T3) : T3 := (a.1, 0, a.2.2)
def tMap (f : Int64 → Int64) (a : T3) : T3 := (f a.1, f a.2.1, f a.2.2)
def tHv (a b : T3) : T3 := (hvs a.1 b.1, hvs a.2.1 b.2.1, hvs a.2.2 b.2.2)
theorem i3 {i : Nat} {P : Nat → Prop} (h : i < 3) (h0 : P 0) (h1 : P 1) (h2 : P 2) : P i := by
  rcases (show i = 0 ∨ i = 1 ∨ i = 2 by omega) with rfl | rfl | rfl
  · exact h0
  · exact h1
  · exact h2
theorem vw_add {i : Nat} (h : i < 3) (a b : T3) (t : Int64) : pAdd (vw i a) (vw i b) t = vw i (tAdd a b t) := i3 (P := fun i => pAdd (vw i a) (vw i b) t = vw i (tAdd a b t)) h rfl rfl rfl
theorem vw_xor {i : Nat} (h : i < 3) (a b : T3) : pXor (vw i a) (vw i b) = vw i (tXor a b) := i3 (P := fun i => pXor (vw i a) (vw i b) = vw i (tXor a b)) h rfl rfl rfl
theorem vw_and {i : Nat} (h : i < 3) (a : T3) (m : Int64) : pAnd (vw i a) m = vw i (tAnd a m) := i3 (P := fun i => pAnd (vw i a) m = vw i (tAnd a m)) h rfl rfl rfl
theorem vw_hv {i : Nat} (h : i < 3) (a b : T3) : pHv (vw i a) (vw i b) = vw i (tHv a b) := i3 (P := fun i => pHv (vw i a) (vw i b) = vw i (tHv a b)) h rfl rfl rfl
theorem vw_sh {i : Nat} (h : i < 3) (a : T3) (n : Int32) : pSh (vw i a) n = vw i (tMap (fun x => jus x n) a) := i3 (P := fun i => pSh (vw i a) n = vw i (tMap (fun x => jus x n) a)) h rfl rfl rfl
theorem vw_rh {i : Nat} (h : i < 3) (a : T3) (n : Int32) : pRh (vw i a) n = vw i (tMap (rhI n) a) := i3 (P := fun i => pRh (vw i a) n = vw i (tMap (rhI n) a)) h rfl rfl rfl
theorem vw_dh {i : Nat} (h : i < 3) (a : T3) : pDh (vw i a) = vw i (tMap dhI a) := i3 (P := fun i => pDh (vw i a) = vw i (tMap dhI a)) h rfl rfl rfl
theorem vw_flip {i : Nat} (h : i < 3) (a : T3) (m : Int64) : pFlip (w3 i) (vw i a) m = vw i (tFlip a m) := i3 (P := fun i => pFlip (w3 i) (vw i a) m = vw i (tFlip a m)) h rfl rfl rfl
theorem vw_known {i : Nat} (h : i < 3) (n : Int64) : pKnown (w3 i) n = vw i (tKnown n) := i3 (P := fun i => pKnown (w3 i) n = vw i (tKnown n)) h rfl rfl rfl
theorem vw_k0 {i : Nat} (h : i < 3) (a : T3) : pKeep (w3 i) 0 (vw i a) = vw i (tK0 a) := i3 (P := fun i => pKeep (w3 i) 0 (vw i a) = vw i (tK0 a)) h rfl rfl rfl
theorem vw_k1 {i : Nat} (h : i < 3) (a : T3) : pKeep (w3 i) 1 (vw i a) = vw i (tK1 a) := i3 (P := fun i => pKeep (w3 i) 1 (vw i a) = vw i (tK1 a)) h rfl rfl rfl
theorem vw_k2 {i : Nat} (h : i < 3) (a : T3) : pKeep (w3 i) 2 (vw i a) = vw i (tK2 a) := i3 (P := fun i => pKeep (w3 i) 2 (vw i a) = vw i (tK2 a)) h rfl rfl rfl
theorem vw_d0 {i : Nat} (h : i < 3) (a : T3) : pDrop (w3 i) 0 (vw i a) = vw i (tD0 a) := i3 (P := fun i => pDrop (w3 i) 0 (vw i a) = vw i (tD0 a)) h rfl rfl rfl
theorem vw_d1 {i : Nat} (h : i < 3) (a : T3) : pDrop (w3 i) 1 (vw i a) = vw i (tD1 a) := i3 (P := fun i => pDrop (w3 i) 1 (vw i a) = vw i (tD1 a)) h rfl rfl rfl
/-- the registers in parts -/
abbrev G3 : Type := Nat → Int32 × Int32 × Int32
def gO (i : Nat) (g : G3) : Nat → Int32 := fun j => if i = 0 then (g j).1 else if i = 1 then (g j).2.1 else (g j).2.2
def gN (i : Nat) (g : G3) : Nat → Int32 := fun j => if i = 0 then (g j).2.1 else if i = 1 then (g j).2.2 else (g j).1
def tLoad (g : G3) (x : Int32) : T3 := if x < 34 then ((g x.toNatClampNeg).1.toInt64, (g x.toNatClampNeg).2.1.toInt64, (g x.toNatClampNeg).2.2.toInt64) else tKnown (x - 34).toInt64
def gStore (g : G3) (x : Nat) (t : T3) : G3 := fun j => if j = x then (t.1.toInt32, t.2.1.toInt32, t.2.2.toInt32) else g j
theorem vw_load {i : Nat} (h : i < 3) (g : G3) (x : Int32) : pLoad (w3 i) (gO i g) (gN i g) x = vw i (tLoad g x) := by
  unfold pLoad tLoad
  by_cases q : x < 34
  · rw [if_pos q, if_pos q]
    exact i3 (P := fun i => ((gO i g x.toNatClampNeg).toInt64, (gN i g x.toNatClampNeg).toInt64) = vw i ((g x.toNatClampNeg).1.toInt64, (g x.toNatClampNeg).2.1.toInt64, (g x.toNatClampNeg).2.2.toInt64)) h rfl rfl rfl
  · rw [if_neg q, if_neg q, vw_known h]
theorem gO_store {i : Nat} (h : i < 3) (g : G3) (x : Nat) (t : T3) : upd (gO i g) x (vw i t).1.toInt32 = gO i (gStore g x t) := by
  funext j
  unfold upd gO gStore
  by_cases q : j = x
  · simp only [q, if_true]
    exact i3 (P := fun i => (vw i t).1.toInt32 = if i = 0 then t.1.toInt32 else if i = 1 then t.2.1.toInt32 else t.2.2.toInt32) h rfl rfl rfl
  · simp only [q, if_false]
theorem gN_store {i : Nat} (h : i < 3) (g : G3) (x : Nat) (t : T3) : upd (gN i g) x (vw i t).2.toInt32 = gN i (gStore g x t) := by
  funext j
  unfold upd gN gStore
  by_cases q : j = x
  · simp only [q, if_true]
    exact i3 (P := fun i => (vw i t).2.toInt32 = if i = 0 then t.2.1.toInt32 else if i = 1 then t.2.2.toInt32 else t.1.toInt32) h rfl rfl rfl
  · simp only [q, if_false]
/-- all three: registers; left, right, product (own parts; what came of the next one's), bit; the comparison; task, stage, sent, waiting; opened -/
abbrev SyT : Type := G3 × (T3 × T3 × T3 × T3 × T3) × (T3 × T3 × T3 × Int32 × Int32) × (Int32 × Int32 × Int32 × Int32) × (Nat → Nat → Int32) × Int32
def vwC (i : Nat) : SyT → CkT
  | (g, (L, R, P, N, B), (W, M, Q, cs, cr), ct, op, oc) => (gO i g, gN i g, (vw i L, vw i R, (e3 i P, e3 i N), vw i B), (vw i W, vw i M, vw i Q, cs, cr), ct, op i, oc)
def sAsk : T3 × T3 × T3 × Int32 × Int32 → T3 × T3
  | (W, M, Q, cs, cr) =>
    if cs = 0 then (tD1 W, tD0 W)
    else if cs = 1 then (W, M)
    else if cs = 2 then (Q, tMap (rhI cr) M)
    else if cs = 3 then (Q, tMap (rhI cr) Q)
    else if cs = 4 then (tFlip (tAnd W 4294967295) 4294967295, tMap (fun x => jus x 32) W)
    else (tMap dhI W, tMap (rhI cr) W)
def sAcc (p : T3) : T3 × T3 × T3 × Int32 × Int32 → T3 × T3 × T3 × Int32 × Int32
  | (W, M, Q, cs, cr) =>
    if cs = 0 then (W, tMap (rhI 1) (tXor (tK2 W) p), tXor W (tMap (rhI 1) (tXor (tK2 W) p)), 1, cr)
    else if cs = 1 then (Q, p, Q, 2, 1)
    else if cs = 2 then (if 16 ≤ cr then (tXor W (tMap (rhI 1) (tXor M p)), tMap (rhI 1) (tXor M p), Q, 4, cr) else (W, tXor M p, Q, 3, cr))
    else if cs = 3 then (W, M, p, 2, cr * 2)
    else if cs = 4 then (tHv p (tFlip (tXor (tAnd W 4294967295) (tMap (fun x => jus x 32) W)) 4294967295), tMap (fun x => jus x 32) W, tFlip (tXor (tAnd W 4294967295) (tMap (fun x => jus x 32) W)) 4294967295, 5, 1)
    else (if 16 ≤ cr then (tXor (tAnd W 4294967295) p, M, Q, 6, cr) else (tXor (tAnd W 4294967295) p, M, Q, cs, cr * 2))
theorem vw_ask {i : Nat} (h : i < 3) (W M Q : T3) (cs cr : Int32) : cmAsk (w3 i) (vw i W, vw i M, vw i Q, cs, cr) = (vw i (sAsk (W, M, Q, cs, cr)).1, vw i (sAsk (W, M, Q, cs, cr)).2) := by
  unfold cmAsk sAsk
  simp only
  by_cases h0 : cs = 0
  · simp only [if_pos h0, vw_d0 h, vw_d1 h]
  by_cases h1 : cs = 1
  · simp only [if_neg h0, if_pos h1]
  by_cases h2 : cs = 2
  · simp only [if_neg h0, if_neg h1, if_pos h2, vw_rh h]
  by_cases h3 : cs = 3
  · simp only [if_neg h0, if_neg h1, if_neg h2, if_pos h3, vw_rh h]
  by_cases h4 : cs = 4
  · simp only [if_neg h0, if_neg h1, if_neg h2, if_neg h3, if_pos h4, vw_and h, vw_flip h, vw_sh h]
  · simp only [if_neg h0, if_neg h1, if_neg h2, if_neg h3, if_neg h4, vw_dh h, vw_rh h]
theorem vw_acc {i : Nat} (h : i < 3) (p W M Q : T3) (cs cr : Int32) : cmAcc (w3 i) (vw i W, vw i M, vw i Q, cs, cr) (vw i p) = (vw i (sAcc p (W, M, Q, cs, cr)).1, vw i (sAcc p (W, M, Q, cs, cr)).2.1, vw i (sAcc p (W, M, Q, cs, cr)).2.2.1, (sAcc p (W, M, Q, cs, cr)).2.2.2) := by
  unfold cmAcc sAcc
  simp only
  by_cases h0 : cs = 0
  · simp only [if_pos h0, vw_k2 h, vw_xor h, vw_rh h]
  by_cases h1 : cs = 1
  · simp only [if_neg h0, if_pos h1]
  by_cases h2 : cs = 2
  · simp only [if_neg h0, if_neg h1, if_pos h2]
    by_cases hr : 16 ≤ cr
    · simp only [if_pos hr, vw_xor h, vw_rh h]
    · simp only [if_neg hr, vw_xor h]
  by_cases h3 : cs = 3
  · simp only [if_neg h0, if_neg h1, if_neg h2, if_pos h3]
  by_cases h4 : cs = 4
  · simp only [if_neg h0, if_neg h1, if_neg h2, if_neg h3, if_pos h4, vw_and h, vw_sh h, vw_xor h, vw_flip h, vw_hv h]
  · simp only [if_neg h0, if_neg h1, if_neg h2, if_neg h3, if_neg h4]
    by_cases hr : 16 ≤ cr
    · simp only [if_pos hr, vw_xor h, vw_and h]
    · simp only [if_neg hr, vw_xor h, vw_and h]
def sBegin (kd tg fi se : Nat → Int32) : SyT → SyT
  | (g, (L, R, P, N, B), (W, M, Q, cs, cr), (tk, sg, sn, wa), op, oc) =>
    if kd tk.toNatClampNeg = 3 then (g, (tLoad g (fi tk.toNatClampNeg), tLoad g (se tk.toNatClampNeg), P, N, B), (W, M, Q, cs, cr), (tk, 3, sn, wa), op, oc)
    else if kd tk.toNatClampNeg = 4 then (g, (tLoad g (fi tk.toNatClampNeg), tLoad g (se tk.toNatClampNeg), P, N, B), (tHv (tLoad g (fi tk.toNatClampNeg)) (tLoad g (se tk.toNatClampNeg)), M, Q, 0, cr), (tk, 0, sn, wa), op, oc)
    else if kd tk.toNatClampNeg = 5 then (g, (tK0 (tAnd (tLoad g (fi tk.toNatClampNeg)) 1), tK1 (tAnd (tLoad g (fi tk.toNatClampNeg)) 1), P, N, tAnd (tLoad g (fi tk.toNatClampNeg)) 1), (W, M, Q, cs, cr), (tk, 1, sn, wa), op, oc)
    else if kd tk.toNatClampNeg = 6 then (g, (tLoad g (se tk.toNatClampNeg), tLoad g (fi tk.toNatClampNeg), P, N, B), (tHv (tLoad g (se tk.toNatClampNeg)) (tLoad g (fi tk.toNatClampNeg)), M, Q, 0, cr), (tk, 0, sn, wa), op, oc)
    else if kd tk.toNatClampNeg = 7 then (g, (tLoad g (fi tk.toNatClampNeg), R, P, N, B), (W, M, Q, cs, cr), (tk, 4, sn, wa), op, oc)
    else if kd tk.toNatClampNeg = 0 then (gStore g (tg tk.toNatClampNeg).toNatClampNeg (tLoad g (fi tk.toNatClampNeg)), (tLoad g (fi tk.toNatClampNeg), R, P, N, B), (W, M, Q, cs, cr), (tk, 5, sn, wa), op, oc)
    else (gStore g (tg tk.toNatClampNeg).toNatClampNeg (tAdd (tLoad g (fi tk.toNatClampNeg)) (tLoad g (se tk.toNatClampNeg)) (if kd tk.toNatClampNeg = 1 then 1 else -1)), (tAdd (tLoad g (fi tk.toNatClampNeg)) (tLoad g (se tk.toNatClampNeg)) (if kd tk.toNatClampNeg = 1 then 1 else -1), tLoad g (se tk.toNatClampNeg), P, N, B), (W, M, Q, cs, cr), (tk, 5, sn, wa), op, oc)
theorem vw_begin {i : Nat} (h : i < 3) (kd tg fi se : Nat → Int32) (S : SyT) : ckBegin (w3 i) kd tg fi se (vwC i S) = vwC i (sBegin kd tg fi se S) := by
  obtain ⟨g, ⟨L, R, P, N, B⟩, ⟨W, M, Q, cs, cr⟩, ⟨tk, sg, sn, wa⟩, op, oc⟩ := S
  simp only [vwC, ckBegin, sBegin]
  by_cases h3 : kd tk.toNatClampNeg = 3
  · simp only [if_pos h3, vw_load h]
  by_cases h4 : kd tk.toNatClampNeg = 4
  · simp only [if_neg h3, if_pos h4, vw_load h, vw_hv h]
  by_cases h5 : kd tk.toNatClampNeg = 5
  · simp only [if_neg h3, if_neg h4, if_pos h5, vw_load h, vw_and h, vw_k0 h, vw_k1 h]
  by_cases h6 : kd tk.toNatClampNeg = 6
  · simp only [if_neg h3, if_neg h4, if_neg h5, if_pos h6, vw_load h, vw_hv h]
  by_cases h7 : kd tk.toNatClampNeg = 7
  · simp only [if_neg h3, if_neg h4, if_neg h5, if_neg h6, if_pos h7, vw_load h]
  by_cases h0 : kd tk.toNatClampNeg = 0
  · simp only [if_neg h3, if_neg h4, if_neg h5, if_neg h6, if_neg h7, if_pos h0, vw_load h, gO_store h, gN_store h]
  · simp only [if_neg h3, if_neg h4, if_neg h5, if_neg h6, if_neg h7, if_neg h0, vw_load h, vw_add h, gO_store h, gN_store h]
    rfl
/-- next parts, clerk by clerk -/
def e3n (t : T3) : T3 := (t.2.1, t.2.2, t.1)
def sLast (kd tg fi se th : Nat → Int32) : SyT → SyT
  | (g, (L, R, P, N, B), cm, (tk, sg, sn, wa), op, oc) =>
    if kd tk.toNatClampNeg = 5 then (gStore g (tg tk.toNatClampNeg).toNatClampNeg (tAdd P (tLoad g (th tk.toNatClampNeg)) 1), (tLoad g (th tk.toNatClampNeg), R, tAdd P (tLoad g (th tk.toNatClampNeg)) 1, e3n (tAdd P (tLoad g (th tk.toNatClampNeg)) 1), B), cm, (tk, 5, sn, wa), op, oc)
    else if kd tk.toNatClampNeg = 6 then
      (fun (R' : T3) (g' : G3) => (gStore g' (tg tk.toNatClampNeg).toNatClampNeg (tAdd P (tLoad g' (fi tk.toNatClampNeg)) 1), (tLoad g' (fi tk.toNatClampNeg), R', tAdd P (tLoad g' (fi tk.toNatClampNeg)) 1, e3n (tAdd P (tLoad g' (fi tk.toNatClampNeg)) 1), B), cm, (tk, 5, sn, wa), op, oc))
        (tAdd (tLoad g (se tk.toNatClampNeg)) P (-1)) (gStore g (se tk.toNatClampNeg).toNatClampNeg (tAdd (tLoad g (se tk.toNatClampNeg)) P (-1)))
    else (gStore g (tg tk.toNatClampNeg).toNatClampNeg P, (L, R, P, N, B), cm, (tk, 5, sn, wa), op, oc)
theorem vw_pn {i : Nat} (h : i < 3) (P : T3) : (e3 i P, e3 i (e3n P)) = vw i P := i3 (P := fun i => (e3 i P, e3 i (e3n P)) = vw i P) h rfl rfl rfl
def sAns : SyT → SyT
  | (g, (L, R, P, _, B), r) => (g, (L, R, P, e3n P, B), r)
theorem vw_ans {i : Nat} (h : i < 3) (S : SyT) : ckAns (e3 (as_nx i) S.2.1.2.2.1) (vwC i S) = vwC i (sAns S) := by
  obtain ⟨g, ⟨L, R, P, N, B⟩, ⟨W, M, Q, cs, cr⟩, ct, op, oc⟩ := S
  simp only [vwC, ckAns, sAns]
  rw [show e3 (as_nx i) P = e3 i (e3n P) from i3 (P := fun i => e3 (as_nx i) P = e3 i (e3n P)) h rfl rfl rfl]
theorem vw_last {i : Nat} (h : i < 3) (kd tg fi se th : Nat → Int32) (S : SyT) : ckLast (w3 i) kd tg fi se th (vwC i (sAns S)) = vwC i (sLast kd tg fi se th (sAns S)) := by
  obtain ⟨g, ⟨L, R, P, N, B⟩, ⟨W, M, Q, cs, cr⟩, ⟨tk, sg, sn, wa⟩, op, oc⟩ := S
  show ckLast (w3 i) kd tg fi se th (gO i g, gN i g, (vw i L, vw i R, (e3 i P, e3 i (e3n P)), vw i B), (vw i W, vw i M, vw i Q, cs, cr), (tk, sg, sn, wa), op i, oc) = vwC i (sLast kd tg fi se th (g, (L, R, P, e3n P, B), (W, M, Q, cs, cr), (tk, sg, sn, wa), op, oc))
  rw [vw_pn h]
  simp only [ckLast, sLast]
  by_cases h5 : kd tk.toNatClampNeg = 5
  · simp only [if_pos h5, vw_load h, vw_add h, gO_store h, gN_store h, vwC, vw_pn h]
  by_cases h6 : kd tk.toNatClampNeg = 6
  · simp only [if_neg h5, if_pos h6, vw_load h, vw_add h, gO_store h, gN_store h, vwC, vw_pn h]
  · simp only [if_neg h5, if_neg h6, gO_store h, gN_store h, vwC, vw_pn h]
def sBit (kd tg fi se th : Nat → Int32) : SyT → SyT
  | (g, (L, R, P, N, B), cm, (tk, sg, sn, wa), op, oc) =>
    if kd tk.toNatClampNeg = 4 then (gStore g (tg tk.toNatClampNeg).toNatClampNeg (tAdd (tAdd L R 1) P (-2)), (L, R, P, N, tAdd (tAdd L R 1) P (-2)), cm, (tk, 5, sn, wa), op, oc)
    else (g, (tAdd (tAdd L R 1) P (-2), tAdd (tLoad g (se tk.toNatClampNeg)) (tLoad g (if kd tk.toNatClampNeg = 6 then fi tk.toNatClampNeg else th tk.toNatClampNeg)) (-1), P, N, tAdd (tAdd L R 1) P (-2)), cm, (tk, 3, sn, wa), op, oc)
theorem vw_bit {i : Nat} (h : i < 3) (kd tg fi se th : Nat → Int32) (S : SyT) : ckBit (w3 i) kd tg fi se th (vwC i (sAns S)) = vwC i (sBit kd tg fi se th (sAns S)) := by
  obtain ⟨g, ⟨L, R, P, N, B⟩, ⟨W, M, Q, cs, cr⟩, ⟨tk, sg, sn, wa⟩, op, oc⟩ := S
  show ckBit (w3 i) kd tg fi se th (gO i g, gN i g, (vw i L, vw i R, (e3 i P, e3 i (e3n P)), vw i B), (vw i W, vw i M, vw i Q, cs, cr), (tk, sg, sn, wa), op i, oc) = vwC i (sBit kd tg fi se th (g, (L, R, P, e3n P, B), (W, M, Q, cs, cr), (tk, sg, sn, wa), op, oc))
  rw [vw_pn h]
  simp only [ckBit, sBit]
  by_cases h4 : kd tk.toNatClampNeg = 4
  · simp only [if_pos h4, vw_add h, gO_store h, gN_store h, vwC, vw_pn h]
  · simp only [if_neg h4, vw_load h, vw_add h, vwC, vw_pn h]
def sTake (kd tg fi se th : Nat → Int32) : SyT → SyT
  | (g, (L, R, P, N, B), cm, (tk, sg, sn, wa), op, oc) =>
    if sg = 0 then
      (if (sAcc P cm).2.2.2.1 = 6 then (g, (tK0 (tAnd (tMap (fun x => jus x 31) (sAcc P cm).1) 1), tK1 (tAnd (tMap (fun x => jus x 31) (sAcc P cm).1) 1), P, N, tAnd (tMap (fun x => jus x 31) (sAcc P cm).1) 1), sAcc P cm, (tk, 1, sn, wa), op, oc)
       else (g, (L, R, P, N, B), sAcc P cm, (tk, sg, sn, wa), op, oc))
    else if sg = 1 then (g, (tAdd (tAdd L R 1) P (-2), tK2 B, P, N, B), cm, (tk, 2, sn, wa), op, oc)
    else if sg = 2 then sBit kd tg fi se th (g, (L, R, P, N, B), cm, (tk, sg, sn, wa), op, oc)
    else if sg = 3 then sLast kd tg fi se th (g, (L, R, P, N, B), cm, (tk, sg, sn, wa), op, oc)
    else if 16 ≤ oc then (g, (L, R, P, N, B), cm, (tk, 5, sn, wa), op, oc)
    else (g, (L, R, P, N, B), cm, (tk, 5, sn, wa), fun i => upd (op i) oc.toNatClampNeg ((vw i L).1 + (vw i L).2 + (vw i P).2).toInt32, oc + 1)
theorem vw_take {i : Nat} (h : i < 3) (kd tg fi se th : Nat → Int32) (S : SyT) : ckTake (w3 i) kd tg fi se th (vwC i (sAns S)) = vwC i (sTake kd tg fi se th (sAns S)) := by
  obtain ⟨g, ⟨L, R, P, N, B⟩, ⟨W, M, Q, cs, cr⟩, ⟨tk, sg, sn, wa⟩, op, oc⟩ := S
  have hb := vw_bit h kd tg fi se th (g, (L, R, P, N, B), (W, M, Q, cs, cr), (tk, sg, sn, wa), op, oc)
  have hl := vw_last h kd tg fi se th (g, (L, R, P, N, B), (W, M, Q, cs, cr), (tk, sg, sn, wa), op, oc)
  have hb : ckBit (w3 i) kd tg fi se th (gO i g, gN i g, (vw i L, vw i R, (e3 i P, e3 i (e3n P)), vw i B), (vw i W, vw i M, vw i Q, cs, cr), (tk, sg, sn, wa), op i, oc) = vwC i (sBit kd tg fi se th (g, (L, R, P, e3n P, B), (W, M, Q, cs, cr), (tk, sg, sn, wa), op, oc)) := hb
  have hl : ckLast (w3 i) kd tg fi se th (gO i g, gN i g, (vw i L, vw i R, (e3 i P, e3 i (e3n P)), vw i B), (vw i W, vw i M, vw i Q, cs, cr), (tk, sg, sn, wa), op i, oc) = vwC i (sLast kd tg fi se th (g, (L, R, P, e3n P, B), (W, M, Q, cs, cr), (tk, sg, sn, wa), op, oc)) := hl
  show ckTake (w3 i) kd tg fi se th (gO i g, gN i g, (vw i L, vw i R, (e3 i P, e3 i (e3n P)), vw i B), (vw i W, vw i M, vw i Q, cs, cr), (tk, sg, sn, wa), op i, oc) = vwC i (sTake kd tg fi se th (g, (L, R, P, e3n P, B), (W, M, Q, cs, cr), (tk, sg, sn, wa), op, oc))
  rw [vw_pn h] at hb hl ⊢
  simp only [ckTake, sTake]
  by_cases h0 : sg = 0
  · simp only [if_pos h0, vw_acc h]
    by_cases h6 : (sAcc P (W, M, Q, cs, cr)).2.2.2.1 = 6
    · simp only [if_pos h6, vw_sh h, vw_and h, vw_k0 h, vw_k1 h, vwC, vw_pn h]
    · simp only [if_neg h6, vwC, vw_pn h]
  by_cases h1 : sg = 1
  · simp only [if_neg h0, if_pos h1, vw_add h, vw_k2 h, vwC, vw_pn h]
  by_cases h2 : sg = 2
  · simp only [if_neg h0, if_neg h1, if_pos h2]
    exact hb
  by_cases h3 : sg = 3
  · simp only [if_neg h0, if_neg h1, if_neg h2, if_pos h3]
    exact hl
  by_cases h6 : 16 ≤ oc
  · simp only [if_neg h0, if_neg h1, if_neg h2, if_neg h3, if_pos h6, vwC, vw_pn h]
  · simp only [if_neg h0, if_neg h1, if_neg h2, if_neg h3, if_neg h6, vwC, vw_pn h]
def sMul (pd : Nat → Int32 → Int64) (n : Int32) (L R : T3) : T3 := (L.1 * (R.1 + R.2.1) + L.2.1 * R.1 + pd 0 n, L.2.1 * (R.2.1 + R.2.2) + L.2.2 * R.2.1 + pd 1 n, L.2.2 * (R.2.2 + R.1) + L.1 * R.2.2 + pd 2 n)
def sCon (px : Nat → Int32 → Int64) (n : Int32) (L R : T3) : T3 := ((L.1 &&& (R.1 ^^^ R.2.1)) ^^^ (L.2.1 &&& R.1) ^^^ px 0 n, (L.2.1 &&& (R.2.1 ^^^ R.2.2)) ^^^ (L.2.2 &&& R.2.1) ^^^ px 1 n, (L.2.2 &&& (R.2.2 ^^^ R.1)) ^^^ (L.1 &&& R.2.2) ^^^ px 2 n)
def sSend (pd px : Nat → Int32 → Int64) : SyT → SyT
  | (g, (L, R, P, N, B), cm, (tk, sg, sn, wa), op, oc) =>
    if sg = 0 then (g, ((sAsk cm).1, (sAsk cm).2, sCon px (sn + 1) (sAsk cm).1 (sAsk cm).2, N, B), cm, (tk, sg, sn + 1, wa), op, oc)
    else if sg = 4 then (g, (L, R, e3n L, N, B), cm, (tk, sg, sn + 1, wa), op, oc)
    else (g, (L, R, sMul pd (sn + 1) L R, N, B), cm, (tk, sg, sn + 1, wa), op, oc)
theorem vw_send {i : Nat} (h : i < 3) (pd px : Nat → Int32 → Int64) (S : SyT) : ckSend (w3 i) (pd i) (px i) (vwC i S) = vwC i (sSend pd px S) := by
  obtain ⟨g, ⟨L, R, P, N, B⟩, ⟨W, M, Q, cs, cr⟩, ⟨tk, sg, sn, wa⟩, op, oc⟩ := S
  show ckSend (w3 i) (pd i) (px i) (gO i g, gN i g, (vw i L, vw i R, (e3 i P, e3 i N), vw i B), (vw i W, vw i M, vw i Q, cs, cr), (tk, sg, sn, wa), op i, oc) = vwC i (sSend pd px (g, (L, R, P, N, B), (W, M, Q, cs, cr), (tk, sg, sn, wa), op, oc))
  simp only [ckSend, sSend]
  by_cases h0 : sg = 0
  · simp only [if_pos h0, vw_ask h]
    generalize sAsk (W, M, Q, cs, cr) = z
    exact i3 (P := fun i => (gO i g, gN i g, (vw i z.1, vw i z.2, (((vw i z.1).1 &&& ((vw i z.2).1 ^^^ (vw i z.2).2)) ^^^ ((vw i z.1).2 &&& (vw i z.2).1) ^^^ px i (sn + 1), e3 i N), vw i B), (vw i W, vw i M, vw i Q, cs, cr), (tk, sg, sn + 1, wa), op i, oc) = ((gO i g, gN i g, (vw i z.1, vw i z.2, (e3 i (sCon px (sn + 1) z.1 z.2), e3 i N), vw i B), (vw i W, vw i M, vw i Q, cs, cr), (tk, sg, sn + 1, wa), op i, oc) : CkT)) h rfl rfl rfl
  by_cases h4 : sg = 4
  · simp only [if_neg h0, if_pos h4]
    exact i3 (P := fun i => (gO i g, gN i g, (vw i L, vw i R, ((vw i L).2, e3 i N), vw i B), (vw i W, vw i M, vw i Q, cs, cr), (tk, sg, sn + 1, wa), op i, oc) = ((gO i g, gN i g, (vw i L, vw i R, (e3 i (e3n L), e3 i N), vw i B), (vw i W, vw i M, vw i Q, cs, cr), (tk, sg, sn + 1, wa), op i, oc) : CkT)) h rfl rfl rfl
  · simp only [if_neg h0, if_neg h4]
    exact i3 (P := fun i => (gO i g, gN i g, (vw i L, vw i R, ((vw i L).1 * ((vw i R).1 + (vw i R).2) + (vw i L).2 * (vw i R).1 + pd i (sn + 1), e3 i N), vw i B), (vw i W, vw i M, vw i Q, cs, cr), (tk, sg, sn + 1, wa), op i, oc) = ((gO i g, gN i g, (vw i L, vw i R, (e3 i (sMul pd (sn + 1) L R), e3 i N), vw i B), (vw i W, vw i M, vw i Q, cs, cr), (tk, sg, sn + 1, wa), op i, oc) : CkT)) h rfl rfl rfl
def sGo (pd px : Nat → Int32 → Int64) : SyT → SyT
  | (g, pp, cm, (tk, sg, sn, wa), op, oc) => if sg = 5 then (g, pp, cm, (tk + 1, sg, sn, 0), op, oc) else sSend pd px (g, pp, cm, (tk, sg, sn, 1), op, oc)
theorem vw_go {i : Nat} (h : i < 3) (pd px : Nat → Int32 → Int64) (S : SyT) : ckGo (w3 i) (pd i) (px i) (vwC i S) = vwC i (sGo pd px S) := by
  obtain ⟨g, ⟨L, R, P, N, B⟩, ⟨W, M, Q, cs, cr⟩, ⟨tk, sg, sn, wa⟩, op, oc⟩ := S
  have hs : ckSend (w3 i) (pd i) (px i) (gO i g, gN i g, (vw i L, vw i R, (e3 i P, e3 i N), vw i B), (vw i W, vw i M, vw i Q, cs, cr), (tk, sg, sn, 1), op i, oc) = vwC i (sSend pd px (g, (L, R, P, N, B), (W, M, Q, cs, cr), (tk, sg, sn, 1), op, oc)) := vw_send h pd px (g, (L, R, P, N, B), (W, M, Q, cs, cr), (tk, sg, sn, 1), op, oc)
  show ckGo (w3 i) (pd i) (px i) (gO i g, gN i g, (vw i L, vw i R, (e3 i P, e3 i N), vw i B), (vw i W, vw i M, vw i Q, cs, cr), (tk, sg, sn, wa), op i, oc) = vwC i (sGo pd px (g, (L, R, P, N, B), (W, M, Q, cs, cr), (tk, sg, sn, wa), op, oc))
  simp only [ckGo, sGo]
  by_cases h5 : sg = 5
  · simp only [if_pos h5, vwC]
  · simp only [if_neg h5]
    exact hs
def sStep (kd tg fi se th : Nat → Int32) (pd px : Nat → Int32 → Int64) (S : SyT) : SyT := sGo pd px (if S.2.2.2.1.2.2.2 = 0 then sBegin kd tg fi se S else sTake kd tg fi se th (sAns S))
/-- a clerk's step with the next one's word is its view of all three's step -/
theorem vw_step {i : Nat} (h : i < 3) (kd tg fi se th : Nat → Int32) (pd px : Nat → Int32 → Int64) (S : SyT) : ckStep (w3 i) kd tg fi se th (pd i) (px i) (e3 (as_nx i) S.2.1.2.2.1) (vwC i S) = vwC i (sStep kd tg fi se th pd px S) := by
  unfold ckStep sStep
  have hc : (vwC i S).2.2.2.2.1.2.2.2 = S.2.2.2.1.2.2.2 := by
    obtain ⟨g, ⟨L, R, P, N, B⟩, ⟨W, M, Q, cs, cr⟩, ⟨tk, sg, sn, wa⟩, op, oc⟩ := S
    rfl
  rw [hc, ← vw_go h]
  by_cases h0 : S.2.2.2.1.2.2.2 = 0
  · rw [if_pos h0, if_pos h0, vw_begin h]
  · rw [if_neg h0, if_neg h0, vw_ans h, vw_take h]
