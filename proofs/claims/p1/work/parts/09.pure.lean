/-! what a clerk does, as functions: parts of numbers (own, next), the comparison, a step -/
abbrev PT : Type := Int64 × Int64
abbrev q3 (w : Int32) : Int32 := w + 1 - (w + 1) / 3 * 3
def pKnown (w : Int32) (n : Int64) : PT := (if w = 0 then n else 0, if w = 2 then n else 0)
def pAdd (a b : PT) (t : Int64) : PT := (a.1 + t * b.1, a.2 + t * b.2)
def pXor (a b : PT) : PT := (a.1 ^^^ b.1, a.2 ^^^ b.2)
def pAnd (a : PT) (m : Int64) : PT := (a.1 &&& m, a.2 &&& m)
def pFlip (w : Int32) (a : PT) (m : Int64) : PT := (if w = 0 then a.1 ^^^ m else a.1, if w = 2 then a.2 ^^^ m else a.2)
def pKeep (w k : Int32) (a : PT) : PT := (if w = k then a.1 else 0, if q3 w = k then a.2 else 0)
def pDrop (w k : Int32) (a : PT) : PT := (if w = k then 0 else a.1, if q3 w = k then 0 else a.2)
def jus (x : Int64) (n : Int32) : Int64 := (x.toUInt64 >>> (n.toInt64.toUInt64 &&& Int64.toUInt64 63)).toInt64
def jsl (x : Int64) (n : Int32) : Int64 := x <<< (n.toInt64 &&& 63)
def pSh (a : PT) (n : Int32) : PT := (jus a.1 n, jus a.2 n)
def rhI (n : Int32) (x : Int64) : Int64 := jsl x n &&& (jsl (jsl 1 n - 1) 32 ^^^ (-1))
def pRh (a : PT) (n : Int32) : PT := (rhI n a.1, rhI n a.2)
def dhI (x : Int64) : Int64 := jus x 32 ||| (x &&& (-4294967296))
def pDh (a : PT) : PT := (dhI a.1, dhI a.2)
def hvs (lo hi : Int64) : Int64 := (lo &&& 4294967295) ||| jsl hi 32
def pHv (a b : PT) : PT := (hvs a.1 b.1, hvs a.2 b.2)
def pLoad (w : Int32) (o n : Nat → Int32) (x : Int32) : PT := if x < 34 then ((o x.toNatClampNeg).toInt64, (n x.toNatClampNeg).toInt64) else pKnown w (x - 34).toInt64
/-- the comparison: word, made, passed, stage, reach -/
abbrev CmT : Type := PT × PT × PT × Int32 × Int32
def cmAsk (w : Int32) (q : CmT) : PT × PT :=
  if q.2.2.2.1 = 0 then (pDrop w 1 q.1, pDrop w 0 q.1)
  else if q.2.2.2.1 = 1 then (q.1, q.2.1)
  else if q.2.2.2.1 = 2 then (q.2.2.1, pRh q.2.1 q.2.2.2.2)
  else if q.2.2.2.1 = 3 then (q.2.2.1, pRh q.2.2.1 q.2.2.2.2)
  else if q.2.2.2.1 = 4 then (pFlip w (pAnd q.1 4294967295) 4294967295, pSh q.1 32)
  else (pDh q.1, pRh q.1 q.2.2.2.2)
def cmAcc (w : Int32) (q : CmT) (p : PT) : CmT :=
  if q.2.2.2.1 = 0 then (q.1, pRh (pXor (pKeep w 2 q.1) p) 1, pXor q.1 (pRh (pXor (pKeep w 2 q.1) p) 1), 1, q.2.2.2.2)
  else if q.2.2.2.1 = 1 then (q.2.2.1, p, q.2.2.1, 2, 1)
  else if q.2.2.2.1 = 2 then
    (if 16 ≤ q.2.2.2.2 then (pXor q.1 (pRh (pXor q.2.1 p) 1), pRh (pXor q.2.1 p) 1, q.2.2.1, 4, q.2.2.2.2) else (q.1, pXor q.2.1 p, q.2.2.1, 3, q.2.2.2.2))
  else if q.2.2.2.1 = 3 then (q.1, q.2.1, p, 2, q.2.2.2.2 * 2)
  else if q.2.2.2.1 = 4 then (pHv p (pFlip w (pXor (pAnd q.1 4294967295) (pSh q.1 32)) 4294967295), pSh q.1 32, pFlip w (pXor (pAnd q.1 4294967295) (pSh q.1 32)) 4294967295, 5, 1)
  else (if 16 ≤ q.2.2.2.2 then (pXor (pAnd q.1 4294967295) p, q.2.1, q.2.2.1, 6, q.2.2.2.2) else (pXor (pAnd q.1 4294967295) p, q.2.1, q.2.2.1, q.2.2.2.1, q.2.2.2.2 * 2))
/-- a clerk: own, next; left, right, product, bit; the comparison; task, stage, sent, waiting; opened, how many -/
abbrev CkT : Type := (Nat → Int32) × (Nat → Int32) × (PT × PT × PT × PT) × CmT × (Int32 × Int32 × Int32 × Int32) × (Nat → Int32) × Int32
def ckBegin (w : Int32) (kd tg fi se : Nat → Int32) (S : CkT) : CkT :=
    if kd S.2.2.2.2.1.1.toNatClampNeg = 3 then (S.1, S.2.1, (pLoad w S.1 S.2.1 (fi S.2.2.2.2.1.1.toNatClampNeg), pLoad w S.1 S.2.1 (se S.2.2.2.2.1.1.toNatClampNeg), S.2.2.1.2.2.1, S.2.2.1.2.2.2), S.2.2.2.1, (S.2.2.2.2.1.1, 3, S.2.2.2.2.1.2.2.1, S.2.2.2.2.1.2.2.2), S.2.2.2.2.2.1, S.2.2.2.2.2.2)
    else if kd S.2.2.2.2.1.1.toNatClampNeg = 4 then (S.1, S.2.1, (pLoad w S.1 S.2.1 (fi S.2.2.2.2.1.1.toNatClampNeg), pLoad w S.1 S.2.1 (se S.2.2.2.2.1.1.toNatClampNeg), S.2.2.1.2.2.1, S.2.2.1.2.2.2), (pHv (pLoad w S.1 S.2.1 (fi S.2.2.2.2.1.1.toNatClampNeg)) (pLoad w S.1 S.2.1 (se S.2.2.2.2.1.1.toNatClampNeg)), S.2.2.2.1.2.1, S.2.2.2.1.2.2.1, 0, S.2.2.2.1.2.2.2.2), (S.2.2.2.2.1.1, 0, S.2.2.2.2.1.2.2.1, S.2.2.2.2.1.2.2.2), S.2.2.2.2.2.1, S.2.2.2.2.2.2)
    else if kd S.2.2.2.2.1.1.toNatClampNeg = 5 then (S.1, S.2.1, (pKeep w 0 (pAnd (pLoad w S.1 S.2.1 (fi S.2.2.2.2.1.1.toNatClampNeg)) 1), pKeep w 1 (pAnd (pLoad w S.1 S.2.1 (fi S.2.2.2.2.1.1.toNatClampNeg)) 1), S.2.2.1.2.2.1, pAnd (pLoad w S.1 S.2.1 (fi S.2.2.2.2.1.1.toNatClampNeg)) 1), S.2.2.2.1, (S.2.2.2.2.1.1, 1, S.2.2.2.2.1.2.2.1, S.2.2.2.2.1.2.2.2), S.2.2.2.2.2.1, S.2.2.2.2.2.2)
    else if kd S.2.2.2.2.1.1.toNatClampNeg = 6 then (S.1, S.2.1, (pLoad w S.1 S.2.1 (se S.2.2.2.2.1.1.toNatClampNeg), pLoad w S.1 S.2.1 (fi S.2.2.2.2.1.1.toNatClampNeg), S.2.2.1.2.2.1, S.2.2.1.2.2.2), (pHv (pLoad w S.1 S.2.1 (se S.2.2.2.2.1.1.toNatClampNeg)) (pLoad w S.1 S.2.1 (fi S.2.2.2.2.1.1.toNatClampNeg)), S.2.2.2.1.2.1, S.2.2.2.1.2.2.1, 0, S.2.2.2.1.2.2.2.2), (S.2.2.2.2.1.1, 0, S.2.2.2.2.1.2.2.1, S.2.2.2.2.1.2.2.2), S.2.2.2.2.2.1, S.2.2.2.2.2.2)
    else if kd S.2.2.2.2.1.1.toNatClampNeg = 7 then (S.1, S.2.1, (pLoad w S.1 S.2.1 (fi S.2.2.2.2.1.1.toNatClampNeg), S.2.2.1.2.1, S.2.2.1.2.2.1, S.2.2.1.2.2.2), S.2.2.2.1, (S.2.2.2.2.1.1, 4, S.2.2.2.2.1.2.2.1, S.2.2.2.2.1.2.2.2), S.2.2.2.2.2.1, S.2.2.2.2.2.2)
    else if kd S.2.2.2.2.1.1.toNatClampNeg = 0 then (upd S.1 (tg S.2.2.2.2.1.1.toNatClampNeg).toNatClampNeg (pLoad w S.1 S.2.1 (fi S.2.2.2.2.1.1.toNatClampNeg)).1.toInt32, upd S.2.1 (tg S.2.2.2.2.1.1.toNatClampNeg).toNatClampNeg (pLoad w S.1 S.2.1 (fi S.2.2.2.2.1.1.toNatClampNeg)).2.toInt32, (pLoad w S.1 S.2.1 (fi S.2.2.2.2.1.1.toNatClampNeg), S.2.2.1.2.1, S.2.2.1.2.2.1, S.2.2.1.2.2.2), S.2.2.2.1, (S.2.2.2.2.1.1, 5, S.2.2.2.2.1.2.2.1, S.2.2.2.2.1.2.2.2), S.2.2.2.2.2.1, S.2.2.2.2.2.2)
    else (upd S.1 (tg S.2.2.2.2.1.1.toNatClampNeg).toNatClampNeg (pAdd (pLoad w S.1 S.2.1 (fi S.2.2.2.2.1.1.toNatClampNeg)) (pLoad w S.1 S.2.1 (se S.2.2.2.2.1.1.toNatClampNeg)) (if kd S.2.2.2.2.1.1.toNatClampNeg = 1 then 1 else -1)).1.toInt32, upd S.2.1 (tg S.2.2.2.2.1.1.toNatClampNeg).toNatClampNeg (pAdd (pLoad w S.1 S.2.1 (fi S.2.2.2.2.1.1.toNatClampNeg)) (pLoad w S.1 S.2.1 (se S.2.2.2.2.1.1.toNatClampNeg)) (if kd S.2.2.2.2.1.1.toNatClampNeg = 1 then 1 else -1)).2.toInt32, (pAdd (pLoad w S.1 S.2.1 (fi S.2.2.2.2.1.1.toNatClampNeg)) (pLoad w S.1 S.2.1 (se S.2.2.2.2.1.1.toNatClampNeg)) (if kd S.2.2.2.2.1.1.toNatClampNeg = 1 then 1 else -1), pLoad w S.1 S.2.1 (se S.2.2.2.2.1.1.toNatClampNeg), S.2.2.1.2.2.1, S.2.2.1.2.2.2), S.2.2.2.1, (S.2.2.2.2.1.1, 5, S.2.2.2.2.1.2.2.1, S.2.2.2.2.1.2.2.2), S.2.2.2.2.2.1, S.2.2.2.2.2.2)
def ckLast (w : Int32) (kd tg fi se th : Nat → Int32) (S : CkT) : CkT :=
    if kd S.2.2.2.2.1.1.toNatClampNeg = 5 then (upd S.1 (tg S.2.2.2.2.1.1.toNatClampNeg).toNatClampNeg (pAdd S.2.2.1.2.2.1 (pLoad w S.1 S.2.1 (th S.2.2.2.2.1.1.toNatClampNeg)) 1).1.toInt32, upd S.2.1 (tg S.2.2.2.2.1.1.toNatClampNeg).toNatClampNeg (pAdd S.2.2.1.2.2.1 (pLoad w S.1 S.2.1 (th S.2.2.2.2.1.1.toNatClampNeg)) 1).2.toInt32, (pLoad w S.1 S.2.1 (th S.2.2.2.2.1.1.toNatClampNeg), S.2.2.1.2.1, pAdd S.2.2.1.2.2.1 (pLoad w S.1 S.2.1 (th S.2.2.2.2.1.1.toNatClampNeg)) 1, S.2.2.1.2.2.2), S.2.2.2.1, (S.2.2.2.2.1.1, 5, S.2.2.2.2.1.2.2.1, S.2.2.2.2.1.2.2.2), S.2.2.2.2.2.1, S.2.2.2.2.2.2)
    else if kd S.2.2.2.2.1.1.toNatClampNeg = 6 then
      (fun (R' : PT) (o' n' : Nat → Int32) => (upd o' (tg S.2.2.2.2.1.1.toNatClampNeg).toNatClampNeg (pAdd S.2.2.1.2.2.1 (pLoad w o' n' (fi S.2.2.2.2.1.1.toNatClampNeg)) 1).1.toInt32, upd n' (tg S.2.2.2.2.1.1.toNatClampNeg).toNatClampNeg (pAdd S.2.2.1.2.2.1 (pLoad w o' n' (fi S.2.2.2.2.1.1.toNatClampNeg)) 1).2.toInt32, (pLoad w o' n' (fi S.2.2.2.2.1.1.toNatClampNeg), R', pAdd S.2.2.1.2.2.1 (pLoad w o' n' (fi S.2.2.2.2.1.1.toNatClampNeg)) 1, S.2.2.1.2.2.2), S.2.2.2.1, (S.2.2.2.2.1.1, 5, S.2.2.2.2.1.2.2.1, S.2.2.2.2.1.2.2.2), S.2.2.2.2.2.1, S.2.2.2.2.2.2))
        (pAdd (pLoad w S.1 S.2.1 (se S.2.2.2.2.1.1.toNatClampNeg)) S.2.2.1.2.2.1 (-1)) (upd S.1 (se S.2.2.2.2.1.1.toNatClampNeg).toNatClampNeg (pAdd (pLoad w S.1 S.2.1 (se S.2.2.2.2.1.1.toNatClampNeg)) S.2.2.1.2.2.1 (-1)).1.toInt32) (upd S.2.1 (se S.2.2.2.2.1.1.toNatClampNeg).toNatClampNeg (pAdd (pLoad w S.1 S.2.1 (se S.2.2.2.2.1.1.toNatClampNeg)) S.2.2.1.2.2.1 (-1)).2.toInt32)
    else (upd S.1 (tg S.2.2.2.2.1.1.toNatClampNeg).toNatClampNeg S.2.2.1.2.2.1.1.toInt32, upd S.2.1 (tg S.2.2.2.2.1.1.toNatClampNeg).toNatClampNeg S.2.2.1.2.2.1.2.toInt32, (S.2.2.1.1, S.2.2.1.2.1, S.2.2.1.2.2.1, S.2.2.1.2.2.2), S.2.2.2.1, (S.2.2.2.2.1.1, 5, S.2.2.2.2.1.2.2.1, S.2.2.2.2.1.2.2.2), S.2.2.2.2.2.1, S.2.2.2.2.2.2)
def ckBit (w : Int32) (kd tg fi se th : Nat → Int32) (S : CkT) : CkT :=
    if kd S.2.2.2.2.1.1.toNatClampNeg = 4 then (upd S.1 (tg S.2.2.2.2.1.1.toNatClampNeg).toNatClampNeg (pAdd (pAdd S.2.2.1.1 S.2.2.1.2.1 1) S.2.2.1.2.2.1 (-2)).1.toInt32, upd S.2.1 (tg S.2.2.2.2.1.1.toNatClampNeg).toNatClampNeg (pAdd (pAdd S.2.2.1.1 S.2.2.1.2.1 1) S.2.2.1.2.2.1 (-2)).2.toInt32, (S.2.2.1.1, S.2.2.1.2.1, S.2.2.1.2.2.1, pAdd (pAdd S.2.2.1.1 S.2.2.1.2.1 1) S.2.2.1.2.2.1 (-2)), S.2.2.2.1, (S.2.2.2.2.1.1, 5, S.2.2.2.2.1.2.2.1, S.2.2.2.2.1.2.2.2), S.2.2.2.2.2.1, S.2.2.2.2.2.2)
    else (S.1, S.2.1, (pAdd (pAdd S.2.2.1.1 S.2.2.1.2.1 1) S.2.2.1.2.2.1 (-2), pAdd (pLoad w S.1 S.2.1 (se S.2.2.2.2.1.1.toNatClampNeg)) (pLoad w S.1 S.2.1 (if kd S.2.2.2.2.1.1.toNatClampNeg = 6 then fi S.2.2.2.2.1.1.toNatClampNeg else th S.2.2.2.2.1.1.toNatClampNeg)) (-1), S.2.2.1.2.2.1, pAdd (pAdd S.2.2.1.1 S.2.2.1.2.1 1) S.2.2.1.2.2.1 (-2)), S.2.2.2.1, (S.2.2.2.2.1.1, 3, S.2.2.2.2.1.2.2.1, S.2.2.2.2.1.2.2.2), S.2.2.2.2.2.1, S.2.2.2.2.2.2)
def ckTake (w : Int32) (kd tg fi se th : Nat → Int32) (S : CkT) : CkT :=
    if S.2.2.2.2.1.2.1 = 0 then
      (if (cmAcc w S.2.2.2.1 S.2.2.1.2.2.1).2.2.2.1 = 6 then (S.1, S.2.1, (pKeep w 0 (pAnd (pSh (cmAcc w S.2.2.2.1 S.2.2.1.2.2.1).1 31) 1), pKeep w 1 (pAnd (pSh (cmAcc w S.2.2.2.1 S.2.2.1.2.2.1).1 31) 1), S.2.2.1.2.2.1, pAnd (pSh (cmAcc w S.2.2.2.1 S.2.2.1.2.2.1).1 31) 1), cmAcc w S.2.2.2.1 S.2.2.1.2.2.1, (S.2.2.2.2.1.1, 1, S.2.2.2.2.1.2.2.1, S.2.2.2.2.1.2.2.2), S.2.2.2.2.2.1, S.2.2.2.2.2.2)
       else (S.1, S.2.1, (S.2.2.1.1, S.2.2.1.2.1, S.2.2.1.2.2.1, S.2.2.1.2.2.2), cmAcc w S.2.2.2.1 S.2.2.1.2.2.1, (S.2.2.2.2.1.1, S.2.2.2.2.1.2.1, S.2.2.2.2.1.2.2.1, S.2.2.2.2.1.2.2.2), S.2.2.2.2.2.1, S.2.2.2.2.2.2))
    else if S.2.2.2.2.1.2.1 = 1 then (S.1, S.2.1, (pAdd (pAdd S.2.2.1.1 S.2.2.1.2.1 1) S.2.2.1.2.2.1 (-2), pKeep w 2 S.2.2.1.2.2.2, S.2.2.1.2.2.1, S.2.2.1.2.2.2), S.2.2.2.1, (S.2.2.2.2.1.1, 2, S.2.2.2.2.1.2.2.1, S.2.2.2.2.1.2.2.2), S.2.2.2.2.2.1, S.2.2.2.2.2.2)
    else if S.2.2.2.2.1.2.1 = 2 then ckBit w kd tg fi se th (S.1, S.2.1, (S.2.2.1.1, S.2.2.1.2.1, S.2.2.1.2.2.1, S.2.2.1.2.2.2), S.2.2.2.1, (S.2.2.2.2.1.1, S.2.2.2.2.1.2.1, S.2.2.2.2.1.2.2.1, S.2.2.2.2.1.2.2.2), S.2.2.2.2.2.1, S.2.2.2.2.2.2)
    else if S.2.2.2.2.1.2.1 = 3 then ckLast w kd tg fi se th (S.1, S.2.1, (S.2.2.1.1, S.2.2.1.2.1, S.2.2.1.2.2.1, S.2.2.1.2.2.2), S.2.2.2.1, (S.2.2.2.2.1.1, S.2.2.2.2.1.2.1, S.2.2.2.2.1.2.2.1, S.2.2.2.2.1.2.2.2), S.2.2.2.2.2.1, S.2.2.2.2.2.2)
    else if 16 ≤ S.2.2.2.2.2.2 then (S.1, S.2.1, (S.2.2.1.1, S.2.2.1.2.1, S.2.2.1.2.2.1, S.2.2.1.2.2.2), S.2.2.2.1, (S.2.2.2.2.1.1, 5, S.2.2.2.2.1.2.2.1, S.2.2.2.2.1.2.2.2), S.2.2.2.2.2.1, S.2.2.2.2.2.2)
    else (S.1, S.2.1, (S.2.2.1.1, S.2.2.1.2.1, S.2.2.1.2.2.1, S.2.2.1.2.2.2), S.2.2.2.1, (S.2.2.2.2.1.1, 5, S.2.2.2.2.1.2.2.1, S.2.2.2.2.1.2.2.2), upd S.2.2.2.2.2.1 S.2.2.2.2.2.2.toNatClampNeg (S.2.2.1.1.1 + S.2.2.1.1.2 + S.2.2.1.2.2.1.2).toInt32, S.2.2.2.2.2.2 + 1)
def ckSend (w : Int32) (pd px : Int32 → Int64) (S : CkT) : CkT :=
    if S.2.2.2.2.1.2.1 = 0 then (S.1, S.2.1, ((cmAsk w S.2.2.2.1).1, (cmAsk w S.2.2.2.1).2, (((cmAsk w S.2.2.2.1).1.1 &&& ((cmAsk w S.2.2.2.1).2.1 ^^^ (cmAsk w S.2.2.2.1).2.2)) ^^^ ((cmAsk w S.2.2.2.1).1.2 &&& (cmAsk w S.2.2.2.1).2.1) ^^^ px (S.2.2.2.2.1.2.2.1 + 1), S.2.2.1.2.2.1.2), S.2.2.1.2.2.2), S.2.2.2.1, (S.2.2.2.2.1.1, S.2.2.2.2.1.2.1, S.2.2.2.2.1.2.2.1 + 1, S.2.2.2.2.1.2.2.2), S.2.2.2.2.2.1, S.2.2.2.2.2.2)
    else if S.2.2.2.2.1.2.1 = 4 then (S.1, S.2.1, (S.2.2.1.1, S.2.2.1.2.1, (S.2.2.1.1.2, S.2.2.1.2.2.1.2), S.2.2.1.2.2.2), S.2.2.2.1, (S.2.2.2.2.1.1, S.2.2.2.2.1.2.1, S.2.2.2.2.1.2.2.1 + 1, S.2.2.2.2.1.2.2.2), S.2.2.2.2.2.1, S.2.2.2.2.2.2)
    else (S.1, S.2.1, (S.2.2.1.1, S.2.2.1.2.1, (S.2.2.1.1.1 * (S.2.2.1.2.1.1 + S.2.2.1.2.1.2) + S.2.2.1.1.2 * S.2.2.1.2.1.1 + pd (S.2.2.2.2.1.2.2.1 + 1), S.2.2.1.2.2.1.2), S.2.2.1.2.2.2), S.2.2.2.1, (S.2.2.2.2.1.1, S.2.2.2.2.1.2.1, S.2.2.2.2.1.2.2.1 + 1, S.2.2.2.2.1.2.2.2), S.2.2.2.2.2.1, S.2.2.2.2.2.2)
def ckGo (w : Int32) (pd px : Int32 → Int64) (S : CkT) : CkT :=
    if S.2.2.2.2.1.2.1 = 5 then (S.1, S.2.1, S.2.2.1, S.2.2.2.1, (S.2.2.2.2.1.1 + 1, S.2.2.2.2.1.2.1, S.2.2.2.2.1.2.2.1, 0), S.2.2.2.2.2.1, S.2.2.2.2.2.2) else ckSend w pd px (S.1, S.2.1, S.2.2.1, S.2.2.2.1, (S.2.2.2.2.1.1, S.2.2.2.2.1.2.1, S.2.2.2.2.1.2.2.1, 1), S.2.2.2.2.2.1, S.2.2.2.2.2.2)
def ckAns (a : Int64) (S : CkT) : CkT :=
    (S.1, S.2.1, (S.2.2.1.1, S.2.2.1.2.1, (S.2.2.1.2.2.1.1, a), S.2.2.1.2.2.2), S.2.2.2.1, S.2.2.2.2.1, S.2.2.2.2.2.1, S.2.2.2.2.2.2)
def ckStep (w : Int32) (kd tg fi se th : Nat → Int32) (pd px : Int32 → Int64) (a : Int64) (st : CkT) : CkT :=
  ckGo w pd px (if st.2.2.2.2.1.2.2.2 = 0 then ckBegin w kd tg fi se st else ckTake w kd tg fi se th (ckAns a st))

def ckAlone (w : Int32) (kd tg : Nat → Int32) (x y : Int32) (S : CkT) : CkT :=
    if kd S.2.2.2.2.1.1.toNatClampNeg = 0 then (upd S.1 (tg S.2.2.2.2.1.1.toNatClampNeg).toNatClampNeg (pLoad w S.1 S.2.1 x).1.toInt32, upd S.2.1 (tg S.2.2.2.2.1.1.toNatClampNeg).toNatClampNeg (pLoad w S.1 S.2.1 x).2.toInt32, (pLoad w S.1 S.2.1 x, S.2.2.1.2.1, S.2.2.1.2.2.1, S.2.2.1.2.2.2), S.2.2.2.1, (S.2.2.2.2.1.1, 5, S.2.2.2.2.1.2.2.1, S.2.2.2.2.1.2.2.2), S.2.2.2.2.2.1, S.2.2.2.2.2.2)
    else (upd S.1 (tg S.2.2.2.2.1.1.toNatClampNeg).toNatClampNeg (pAdd (pLoad w S.1 S.2.1 x) (pLoad w S.1 S.2.1 y) (if kd S.2.2.2.2.1.1.toNatClampNeg = 1 then 1 else -1)).1.toInt32, upd S.2.1 (tg S.2.2.2.2.1.1.toNatClampNeg).toNatClampNeg (pAdd (pLoad w S.1 S.2.1 x) (pLoad w S.1 S.2.1 y) (if kd S.2.2.2.2.1.1.toNatClampNeg = 1 then 1 else -1)).2.toInt32, (pAdd (pLoad w S.1 S.2.1 x) (pLoad w S.1 S.2.1 y) (if kd S.2.2.2.2.1.1.toNatClampNeg = 1 then 1 else -1), pLoad w S.1 S.2.1 y, S.2.2.1.2.2.1, S.2.2.1.2.2.2), S.2.2.2.1, (S.2.2.2.2.1.1, 5, S.2.2.2.2.1.2.2.1, S.2.2.2.2.1.2.2.2), S.2.2.2.2.2.1, S.2.2.2.2.2.2)
def ckOpened (S : CkT) : CkT :=
    if 16 ≤ S.2.2.2.2.2.2 then (S.1, S.2.1, S.2.2.1, S.2.2.2.1, (S.2.2.2.2.1.1, 5, S.2.2.2.2.1.2.2.1, S.2.2.2.2.1.2.2.2), S.2.2.2.2.2.1, S.2.2.2.2.2.2)
    else (S.1, S.2.1, S.2.2.1, S.2.2.2.1, (S.2.2.2.2.1.1, 5, S.2.2.2.2.1.2.2.1, S.2.2.2.2.1.2.2.2), upd S.2.2.2.2.2.1 S.2.2.2.2.2.2.toNatClampNeg (S.2.2.1.1.1 + S.2.2.1.1.2 + S.2.2.1.2.2.1.2).toInt32, S.2.2.2.2.2.2 + 1)
