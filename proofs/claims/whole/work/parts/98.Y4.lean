/-! the readers: a statement -/
def SameA (X Y : ScT) : Prop := Y.1 = X.1 ∧ Y.2.1 = X.2.1 ∧ Y.2.2.1 = X.2.2.1 ∧ Y.2.2.2.1 = X.2.2.2.1 ∧ Y.2.2.2.2.1 = X.2.2.2.2.1 ∧ Y.2.2.2.2.2.1 = X.2.2.2.2.2.1
theorem SameA.rf (X : ScT) : SameA X X := ⟨rfl, rfl, rfl, rfl, rfl, rfl⟩
theorem SameA.tr {X Y Z : ScT} (h : SameA X Y) (h2 : SameA Y Z) : SameA X Z := ⟨h2.1.trans h.1, h2.2.1.trans h.2.1, h2.2.2.1.trans h.2.2.1, h2.2.2.2.1.trans h.2.2.2.1, h2.2.2.2.2.1.trans h.2.2.2.2.1, h2.2.2.2.2.2.trans h.2.2.2.2.2⟩
theorem nmV_a (X : ScT) (v : Int32) : SameA X (nmV X v) := by
  unfold nmV
  split
  · exact SameA.rf X
  · split
    · exact ⟨rfl, rfl, rfl, rfl, rfl, rfl⟩
    · exact SameA.rf X
theorem nmV_c (X : ScT) (v : Int32) : (nmV X v).2.2.2.2.2.2.1 = X.2.2.2.2.2.2.1 ∧ (nmV X v).2.2.2.2.2.2.2.1 = X.2.2.2.2.2.2.2.1 := by
  unfold nmV
  split
  · exact ⟨rfl, rfl⟩
  · split
    · exact ⟨rfl, rfl⟩
    · exact ⟨rfl, rfl⟩
theorem tkC_a (X : ScT) (x : Int32) : SameA X (tkC X x).2 := by
  unfold tkC
  split
  · exact ⟨rfl, rfl, rfl, rfl, rfl, rfl⟩
  · exact SameA.rf X
theorem tkO_a (X : ScT) : SameA X (tkO X).2 := by
  unfold tkO
  split
  · exact ⟨rfl, rfl, rfl, rfl, rfl, rfl⟩
  · exact SameA.rf X
theorem tkC_y {X : ScT} {x : Int32} (h : X.2.2.2.2.2.2.1 + x ≤ 12) : ¬ (tkC X x).1 = 0 := by
  unfold tkC; rw [if_pos h]; show ¬ (1 : Int32) = 0; decide
theorem tkC_n {X : ScT} {x : Int32} (h : ¬ X.2.2.2.2.2.2.1 + x ≤ 12) : (tkC X x).1 = 0 := by
  unfold tkC; rw [if_neg h]
theorem tkO_y {X : ScT} (h : X.2.2.2.2.2.2.2.1 < 16) : ¬ (tkO X).1 = 0 := by
  unfold tkO; rw [if_pos h]; show ¬ (1 : Int32) = 0; decide
theorem tkO_n {X : ScT} (h : ¬ X.2.2.2.2.2.2.2.1 < 16) : (tkO X).1 = 0 := by
  unfold tkO; rw [if_neg h]
def rC (w : Int32) (r z : Nat) : Nat := if w = 4 then 1 else if w = 5 then 1 else if w = 6 then (z - r) * (z - r + 1) / 2 else 0
def rT (w : Int32) (r z : Nat) : Nat := if w = 6 then (z - r) * (z - r + 1) / 2 else if w = 7 then z - r else 1
def rO (w : Int32) : Nat := if w = 8 then 1 else 0
def rowX (X : ScT) (w : Int32) (r : Nat) (o2 o3 o4 : Int32) (z : Nat) : ScT :=
  if w = 6 then swO r (z - r) (tkC X (nI ((z - r) * (z - r + 1) / 2))).2
  else if w = 7 then smI (z - r) (r + 1) X
  else if w = 8 then adS (tkO X).2 7 0 (nI r) 0 0
  else if w = 0 then adS (nmV X o2) 0 (nI r) (cd o2) 0 0
  else if w = 4 then adS (nmV (tkC (nmV X o2) 1).2 o3) 4 (nI r) (cd o2) (cd o3) 0
  else if w = 5 then adS (nmV (nmV (tkC (nmV X o2) 1).2 o3) o4) 5 (nI r) (cd o2) (cd o3) (cd o4)
  else adS (nmV (nmV X o2) o3) w (nI r) (cd o2) (cd o3) 0
def RowZ (w o2 o3 o4 : Int32) : Prop := (¬ w = 5 → o4 = 0) ∧ (w = 0 → o3 = 0) ∧ (w = 6 ∨ w = 7 ∨ w = 8 → o2 = 0 ∧ o3 = 0)
theorem rz0 (v : Int32) : RowZ 0 v 0 0 := ⟨fun _ => rfl, fun _ => rfl, fun q => absurd q (by decide)⟩
theorem rz1 (v x : Int32) : RowZ 1 v x 0 := ⟨fun _ => rfl, fun q => absurd q (by decide), fun q => absurd q (by decide)⟩
theorem rz2 (v x : Int32) : RowZ 2 v x 0 := ⟨fun _ => rfl, fun q => absurd q (by decide), fun q => absurd q (by decide)⟩
theorem rz3 (v x : Int32) : RowZ 3 v x 0 := ⟨fun _ => rfl, fun q => absurd q (by decide), fun q => absurd q (by decide)⟩
theorem rz4 (v x : Int32) : RowZ 4 v x 0 := ⟨fun _ => rfl, fun q => absurd q (by decide), fun q => absurd q (by decide)⟩
theorem rz5 (v x y : Int32) : RowZ 5 v x y := ⟨fun q => absurd rfl q, fun q => absurd q (by decide), fun q => absurd q (by decide)⟩
theorem rz6 : RowZ 6 0 0 0 := ⟨fun _ => rfl, fun q => absurd q (by decide), fun _ => ⟨rfl, rfl⟩⟩
theorem rz7 : RowZ 7 0 0 0 := ⟨fun _ => rfl, fun q => absurd q (by decide), fun _ => ⟨rfl, rfl⟩⟩
theorem rz8 : RowZ 8 0 0 0 := ⟨fun _ => rfl, fun q => absurd q (by decide), fun _ => ⟨rfl, rfl⟩⟩
def RowOk (w : Int32) (r : Nat) (o2 o3 o4 : Int32) (z : Nat) : Prop := r < 26 ∧ z < 26 ∧ OpV o2 ∧ OpV o3 ∧ OpV o4 ∧ ((w = 0 ∨ w = 1 ∨ w = 2 ∨ w = 3 ∨ w = 4 ∨ w = 5 ∨ w = 8) ∨ ((w = 6 ∨ w = 7) ∧ r < z ∧ z ≤ r + 4)) ∧ RowZ w o2 o3 o4
def RwD (fd' fd : Nat → Int32) (fr : Nat) (w r o2 o3 o4 z : Int32) : Prop := (∀ j, j < 6 * fr → fd' j = fd j) ∧ fd' (6 * fr) = w ∧ fd' (6 * fr + 1) = r ∧ fd' (6 * fr + 2) = o2 ∧ fd' (6 * fr + 3) = o3 ∧ fd' (6 * fr + 4) = o4 ∧ fd' (6 * fr + 5) = z
theorem OpV.z : OpV 0 := ⟨0, Or.inl ⟨by decide, nI_0.symm⟩⟩
def z6 (fd : Nat → Int32) (fr : Nat) : Nat → Int32 := upd (upd (upd (upd (upd (upd fd (((6 * (nI fr)) + (0 : Int32)).toNatClampNeg) (0 : Int32)) (((6 * (nI fr)) + (1 : Int32)).toNatClampNeg) (0 : Int32)) (((6 * (nI fr)) + (2 : Int32)).toNatClampNeg) (0 : Int32)) (((6 * (nI fr)) + (3 : Int32)).toNatClampNeg) (0 : Int32)) (((6 * (nI fr)) + (4 : Int32)).toNatClampNeg) (0 : Int32)) (((6 * (nI fr)) + (5 : Int32)).toNatClampNeg) (0 : Int32)
theorem z6_n {fd : Nat → Int32} {fr j : Nat} (hfr : fr ≤ 60) (hj : j < 6 * fr) : z6 fd fr j = fd j := by
  have e1 : (6 * nI fr + (1 : Int32)).toNatClampNeg = 6 * fr + 1 := ix6 (kk := 1) hfr (by decide)
  have e2 : (6 * nI fr + (2 : Int32)).toNatClampNeg = 6 * fr + 2 := ix6 (kk := 2) hfr (by decide)
  have e3 : (6 * nI fr + (3 : Int32)).toNatClampNeg = 6 * fr + 3 := ix6 (kk := 3) hfr (by decide)
  have e4 : (6 * nI fr + (4 : Int32)).toNatClampNeg = 6 * fr + 4 := ix6 (kk := 4) hfr (by decide)
  have e5 : (6 * nI fr + (5 : Int32)).toNatClampNeg = 6 * fr + 5 := ix6 (kk := 5) hfr (by decide)
  unfold z6
  rw [ix0 hfr, e1, e2, e3, e4, e5]
  rw [upd_ne (by omega), upd_ne (by omega), upd_ne (by omega), upd_ne (by omega), upd_ne (by omega), upd_ne (by omega)]
theorem z6_v {fd : Nat → Int32} {fr i : Nat} (hfr : fr ≤ 60) (hi : i < 6) : z6 fd fr (6 * fr + i) = 0 := by
  have e1 : (6 * nI fr + (1 : Int32)).toNatClampNeg = 6 * fr + 1 := ix6 (kk := 1) hfr (by decide)
  have e2 : (6 * nI fr + (2 : Int32)).toNatClampNeg = 6 * fr + 2 := ix6 (kk := 2) hfr (by decide)
  have e3 : (6 * nI fr + (3 : Int32)).toNatClampNeg = 6 * fr + 3 := ix6 (kk := 3) hfr (by decide)
  have e4 : (6 * nI fr + (4 : Int32)).toNatClampNeg = 6 * fr + 4 := ix6 (kk := 4) hfr (by decide)
  have e5 : (6 * nI fr + (5 : Int32)).toNatClampNeg = 6 * fr + 5 := ix6 (kk := 5) hfr (by decide)
  unfold z6
  rw [ix0 hfr, e1, e2, e3, e4, e5]
  have hc : i = 0 ∨ i = 1 ∨ i = 2 ∨ i = 3 ∨ i = 4 ∨ i = 5 := by omega
  rcases hc with rfl | rfl | rfl | rfl | rfl | rfl
  · rw [upd_ne (by omega), upd_ne (by omega), upd_ne (by omega), upd_ne (by omega), upd_ne (by omega)]; exact upd_eq
  · rw [upd_ne (by omega), upd_ne (by omega), upd_ne (by omega), upd_ne (by omega)]; exact upd_eq
  · rw [upd_ne (by omega), upd_ne (by omega), upd_ne (by omega)]; exact upd_eq
  · rw [upd_ne (by omega), upd_ne (by omega)]; exact upd_eq
  · rw [upd_ne (by omega)]; exact upd_eq
  · exact upd_eq
theorem z6_0 {fd : Nat → Int32} {fr : Nat} (hfr : fr ≤ 60) : z6 fd fr (6 * fr) = 0 := z6_v (i := 0) hfr (by decide)
theorem isWd_n {m : Int32} {b e : Nat} {f : Nat → Int32} {x0 x1 x2 x3 : Int32} (h : ¬ m = 1) : o_Mo_isWord_r m b e f x0 x1 x2 x3 = 0 := if_neg h
theorem sta_reg {f : Nat → Int32} {b e : Nat} {a : Int32} {fd : Nat → Int32} {fr : Nat} {cm op : Int32} (hfr : fr ≤ 60) (hb : b < 1000) (hr : o_Mo_isRegister_r 1 b e = 1) : mSta f 1 b e a fd fr cm op = (1, upd (z6 fd fr) (6 * fr + 1) (f b - 97), op) := by
  have e1 : (6 * nI fr + (1 : Int32)).toNatClampNeg = 6 * fr + 1 := ix6 (kk := 1) hfr (by decide)
  unfold mSta
  rw [if_neg (by rw [hr]; decide)]
  show (1, upd (z6 fd fr) ((6 * nI fr + (1 : Int32)).toNatClampNeg) (f (nI b).toNatClampNeg - 97), op) = _
  rw [e1, nI_clamp (by omega)]
theorem sta_sort {f : Nat → Int32} {b e : Nat} {a : Int32} {fd : Nat → Int32} {fr : Nat} {cm op : Int32} (hfr : fr ≤ 60) (h1 : o_Mo_isRegister_r 1 b e = 0) (h2 : o_Mo_isWord_r 1 b e f 111 112 101 110 = 0) (h3 : ¬ o_Mo_isWord_r 1 b e f 115 111 114 116 = 0) : mSta f 1 b e a fd fr cm op = (12, upd (z6 fd fr) (6 * fr) 6, op) := by
  unfold mSta
  rw [if_pos h1, if_pos h2, if_neg h3]
  show (12, upd (z6 fd fr) ((6 * nI fr + (0 : Int32)).toNatClampNeg) 6, op) = _
  rw [ix0 hfr]
theorem sta_sums {f : Nat → Int32} {b e : Nat} {a : Int32} {fd : Nat → Int32} {fr : Nat} {cm op : Int32} (hfr : fr ≤ 60) (h1 : o_Mo_isRegister_r 1 b e = 0) (h2 : o_Mo_isWord_r 1 b e f 111 112 101 110 = 0) (h3 : o_Mo_isWord_r 1 b e f 115 111 114 116 = 0) (h4 : ¬ o_Mo_isWord_r 1 b e f 115 117 109 115 = 0) : mSta f 1 b e a fd fr cm op = (12, upd (z6 fd fr) (6 * fr) 7, op) := by
  unfold mSta
  rw [if_pos h1, if_pos h2, if_pos h3, if_neg h4]
  show (12, upd (z6 fd fr) ((6 * nI fr + (0 : Int32)).toNatClampNeg) 7, op) = _
  rw [ix0 hfr]
theorem sta_bad {f : Nat → Int32} {m : Int32} {b e : Nat} {a : Int32} {fd : Nat → Int32} {fr : Nat} {cm op : Int32} (h1 : o_Mo_isRegister_r m b e = 0) (h2 : o_Mo_isWord_r m b e f 111 112 101 110 = 0) (h3 : o_Mo_isWord_r m b e f 115 111 114 116 = 0) (h4 : o_Mo_isWord_r m b e f 115 117 109 115 = 0) : (mSta f m b e a fd fr cm op).1 = 16 := by
  unfold mSta
  rw [if_pos h1, if_pos h2, if_pos h3, if_pos h4]
theorem sta_opn1 {f : Nat → Int32} {b e : Nat} {a : Int32} {fd : Nat → Int32} {fr : Nat} {cm op : Int32} (hfr : fr ≤ 60) (h1 : o_Mo_isRegister_r 1 b e = 0) (h2 : ¬ o_Mo_isWord_r 1 b e f 111 112 101 110 = 0) (h3 : op + 1 ≤ 16) : mSta f 1 b e a fd fr cm op = (14, upd (z6 fd fr) (6 * fr) 8, op + 1) := by
  unfold mSta
  rw [if_pos h1, if_neg h2, if_pos h3]
  show (14, upd (z6 fd fr) ((6 * nI fr + (0 : Int32)).toNatClampNeg) 8, op + 1) = _
  rw [ix0 hfr]
theorem sta_opn0 {f : Nat → Int32} {b e : Nat} {a : Int32} {fd : Nat → Int32} {fr : Nat} {cm op : Int32} (h1 : o_Mo_isRegister_r 1 b e = 0) (h2 : ¬ o_Mo_isWord_r 1 b e f 111 112 101 110 = 0) (h3 : ¬ op + 1 ≤ 16) : (mSta f 1 b e a fd fr cm op).1 = 16 := by
  unfold mSta
  rw [if_pos h1, if_neg h2, if_neg h3]
theorem rdAss_0 {K W : Nat → Int32} {k : Nat} {X : ScT} (h : isS K W (nI (k + 1)) 61 = 0) : rdAss K W (nI k) X = (0, nI (k + 1), X) := by
  unfold rdAss; rw [nI_1, if_pos h, tkA_0 h]
theorem rdAss_1 {K W : Nat → Int32} {k : Nat} {X : ScT} (hk : k < 1000) (h : ¬ isS K W (nI (k + 1)) 61 = 0) {c : Int32} {k3 : Nat} {X1 : ScT} (hv : rdVal K W (nI (k + 1 + 1)) X = (c, nI k3, X1)) : rdAss K W (nI k) X = if c = -1 then (0, nI k3, X1) else if isS K W (nI k3) 63 = 0 then (if kOS K W (nI k3) = 0 then (1, nI k3, adS X1 (kOS K W (nI k3)) (W k) c 0 0) else rdSec K W (kOS K W (nI k3)) (W k) c (nI k3) X1) else rdCho K W (W k) c (nI k3) X1 := by
  unfold rdAss; rw [nI_1, if_neg h, tkA_1 h, nI_1, hv, nI_clamp (by omega)]
theorem rdSec_4 {K W : Nat → Int32} {k : Nat} {X : ScT} {y1 y2 c : Int32} {k' : Nat} {X1 : ScT} (h : ¬ (tkC X 1).1 = 0) (hv : rdVal K W (nI (k + 1)) (tkC X 1).2 = (c, nI k', X1)) : rdSec K W 4 y1 y2 (nI k) X = if c = -1 then (0, nI k', X1) else (1, nI k', adS X1 4 y1 y2 c 0) := by
  unfold rdSec; rw [if_pos rfl, if_neg h, nI_1, hv]
theorem rdSec_40 {K W : Nat → Int32} {k : Nat} {X : ScT} {y1 y2 : Int32} (h : (tkC X 1).1 = 0) : rdSec K W 4 y1 y2 (nI k) X = (0, nI k, (tkC X 1).2) := by
  unfold rdSec; rw [if_pos rfl, if_pos h]
theorem rdSec_n {K W : Nat → Int32} {k : Nat} {X : ScT} {y0 y1 y2 c : Int32} {k' : Nat} {X1 : ScT} (h : ¬ y0 = 4) (hv : rdVal K W (nI (k + 1)) X = (c, nI k', X1)) : rdSec K W y0 y1 y2 (nI k) X = if c = -1 then (0, nI k', X1) else (1, nI k', adS X1 y0 y1 y2 c 0) := by
  unfold rdSec; rw [if_neg h, nI_1, hv]
theorem rdCho_0 {K W : Nat → Int32} {k : Nat} {X : ScT} {y0 y1 : Int32} (h : (tkC X 1).1 = 0) : rdCho K W y0 y1 (nI k) X = (0, nI k, (tkC X 1).2) := by
  unfold rdCho; rw [if_pos h]
theorem rdCho_1 {K W : Nat → Int32} {k : Nat} {X : ScT} {y0 y1 c : Int32} {k' : Nat} {X1 : ScT} (h : ¬ (tkC X 1).1 = 0) (hv : rdVal K W (nI (k + 1)) (tkC X 1).2 = (c, nI k', X1)) (hc : c = -1 ∨ isS K W (nI k') 58 = 0) : rdCho K W y0 y1 (nI k) X = (0, nI k', X1) := by
  unfold rdCho; rw [if_neg h, nI_1, hv]
  by_cases q : c = -1
  · rw [if_pos q]
  · rw [if_neg q, if_pos (hc.resolve_left q), tkA_0 (hc.resolve_left q)]
theorem rdCho_2 {K W : Nat → Int32} {k : Nat} {X : ScT} {y0 y1 c : Int32} {k' : Nat} {X1 : ScT} (h : ¬ (tkC X 1).1 = 0) (hv : rdVal K W (nI (k + 1)) (tkC X 1).2 = (c, nI k', X1)) (hc : ¬ c = -1) (hs : ¬ isS K W (nI k') 58 = 0) {c2 : Int32} {k2 : Nat} {X2 : ScT} (hv2 : rdVal K W (nI (k' + 1)) X1 = (c2, nI k2, X2)) : rdCho K W y0 y1 (nI k) X = if c2 = -1 then (0, nI k2, X2) else (1, nI k2, adS X2 5 y0 y1 c c2) := by
  unfold rdCho; rw [if_neg h, nI_1, hv, if_neg hc, if_neg hs, tkA_1 hs, nI_1, hv2]
