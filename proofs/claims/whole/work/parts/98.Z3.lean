/-! the tasks of a script, carried out openly, row by row -/
theorem oRun_sn {kd tg fi se th : Nat → Int32} : ∀ (n j : Nat) (u : (Nat → Int32) × ((Nat → Int32) × Int32)), oRun kd tg fi se th (n + 1) j u = (oTask (kd (j + n)) (tg (j + n)) (fi (j + n)) (se (j + n)) (th (j + n)) (oRun kd tg fi se th n j u).1, oOpen (kd (j + n)) (opv (oRun kd tg fi se th n j u).1 (fi (j + n))) (oRun kd tg fi se th n j u).2)
  | 0, j, u => rfl
  | n + 1, j, u => by
    show oRun kd tg fi se th (n + 1) (j + 1) (oTask (kd j) (tg j) (fi j) (se j) (th j) u.1, oOpen (kd j) (opv u.1 (fi j)) u.2) = _
    rw [oRun_sn n (j + 1)]
    have e : j + 1 + n = j + (n + 1) := by omega
    rw [e]
    rfl
theorem oRun_cg {kd tg fi se th kd' tg' fi' se' th' : Nat → Int32} : ∀ (n j : Nat) (u : (Nat → Int32) × ((Nat → Int32) × Int32)), (∀ i, i < j + n → kd i = kd' i ∧ tg i = tg' i ∧ fi i = fi' i ∧ se i = se' i ∧ th i = th' i) → oRun kd tg fi se th n j u = oRun kd' tg' fi' se' th' n j u
  | 0, j, u, _ => rfl
  | n + 1, j, u, h => by
    show oRun kd tg fi se th n (j + 1) (oTask (kd j) (tg j) (fi j) (se j) (th j) u.1, oOpen (kd j) (opv u.1 (fi j)) u.2) = oRun kd' tg' fi' se' th' n (j + 1) (oTask (kd' j) (tg' j) (fi' j) (se' j) (th' j) u.1, oOpen (kd' j) (opv u.1 (fi' j)) u.2)
    obtain ⟨h1, h2, h3, h4, h5⟩ := h j (by omega)
    rw [h1, h2, h3, h4, h5]
    exact oRun_cg n (j + 1) _ (fun i hi => h i (by omega))
def oA (X : ScT) (u : (Nat → Int32) × ((Nat → Int32) × Int32)) : (Nat → Int32) × ((Nat → Int32) × Int32) := oRun X.1 X.2.1 X.2.2.1 X.2.2.2.1 X.2.2.2.2.1 X.2.2.2.2.2.1.toNatClampNeg 0 u
theorem oA_same {X Y : ScT} (h : SameA X Y) (u : (Nat → Int32) × ((Nat → Int32) × Int32)) : oA Y u = oA X u := by
  obtain ⟨h1, h2, h3, h4, h5, h6⟩ := h
  unfold oA
  rw [h1, h2, h3, h4, h5, h6]
theorem adS_n {X : ScT} {c : Nat} {a t f s h : Int32} (hc : X.2.2.2.2.2.1 = nI c) (hl : c < 132) : (adS X a t f s h).2.2.2.2.2.1 = nI (c + 1) := by
  unfold adS
  rw [if_pos (by rw [hc]; exact nI_lt (b := 132) hl (by decide)), ← nI_1, ← hc]
theorem oA_ad {X : ScT} {c : Nat} {a t f s h : Int32} (hc : X.2.2.2.2.2.1 = nI c) (hl : c < 132) (u : (Nat → Int32) × ((Nat → Int32) × Int32)) : oA (adS X a t f s h) u = (oTask a t f s h (oA X u).1, oOpen a (opv (oA X u).1 f) (oA X u).2) := by
  have hlt : X.2.2.2.2.2.1 < 132 := by rw [hc]; exact nI_lt (b := 132) hl (by decide)
  have ec : X.2.2.2.2.2.1.toNatClampNeg = c := by rw [hc, nI_clamp (by omega)]
  have e1 : (adS X a t f s h) = (upd X.1 c a, upd X.2.1 c t, upd X.2.2.1 c f, upd X.2.2.2.1 c s, upd X.2.2.2.2.1 c h, X.2.2.2.2.2.1 + 1, X.2.2.2.2.2.2) := by
    unfold adS
    rw [if_pos hlt, ec]
  have e2 : (X.2.2.2.2.2.1 + 1).toNatClampNeg = c + 1 := by rw [hc, nI_1, nI_clamp (by omega)]
  have e3 : oRun (upd X.1 c a) (upd X.2.1 c t) (upd X.2.2.1 c f) (upd X.2.2.2.1 c s) (upd X.2.2.2.2.1 c h) c 0 u = oA X u := by
    unfold oA
    rw [ec]
    exact oRun_cg c 0 u (fun i hi => ⟨upd_ne (by omega), upd_ne (by omega), upd_ne (by omega), upd_ne (by omega), upd_ne (by omega)⟩)
  rw [e1]
  show oRun (upd X.1 c a) (upd X.2.1 c t) (upd X.2.2.1 c f) (upd X.2.2.2.1 c s) (upd X.2.2.2.2.1 c h) (X.2.2.2.2.2.1 + 1).toNatClampNeg 0 u = _
  rw [e2, oRun_sn, e3, Nat.zero_add, upd_eq, upd_eq, upd_eq, upd_eq, upd_eq]
theorem lt_1000 {n : Nat} (h : n < 1000) : nI n < (1000 : Int32) := nI_lt (b := 1000) h (by decide)
theorem lt_100 {n : Nat} (h : n < 100) : nI n < (100 : Int32) := nI_lt (b := 100) h (by decide)
theorem lt_34 {n : Nat} (h : n < 34) : nI n < (34 : Int32) := nI_lt (b := 34) h (by decide)
theorem nlt_1000 {n : Nat} (h : 1000 ≤ n) (h2 : n < 2 ^ 31) : ¬ nI n < (1000 : Int32) := nI_nlt (b := 1000) h h2
theorem nlt_100 {n : Nat} (h : 100 ≤ n) (h2 : n < 2 ^ 31) : ¬ nI n < (100 : Int32) := nI_nlt (b := 100) h h2
theorem nlt_34 {n : Nat} (h : 34 ≤ n) (h2 : n < 2 ^ 31) : ¬ nI n < (34 : Int32) := nI_nlt (b := 34) h h2
theorem ng1 (x : Int32) : -1 * x = -x := by rw [Int32.neg_mul, Int32.one_mul]
theorem opv_n {v : Nat → Int32} {n : Nat} (h : n < 34) : opv v (nI n) = v n := by
  unfold opv
  rw [if_pos (lt_34 h), nI_clamp (by omega)]
theorem opn_n {k x : Int32} {u : (Nat → Int32) × Int32} (h : ¬ k = 7) : oOpen k x u = u := if_neg h
theorem ot_6 {r : Nat} {v : Nat → Int32} (h : r + 1 < 34) : oTask 6 (nI r) (nI r) (nI (r + 1)) 0 v = ce r v := by
  unfold oTask
  rw [if_neg (by decide), if_neg (by decide), if_neg (by decide), if_pos rfl, nI_clamp (n := r) (by omega), nI_clamp (n := r + 1) (by omega), opv_n h, opv_n (n := r) (by omega), opv_n (n := r) (by omega), upd_ne (by omega), oLess_k]
  unfold ce
  generalize v (r + 1) = s
  generalize v r = f
  by_cases hl : kU s < kU f
  · rw [if_pos hl, if_pos hl, if_pos hl]
    have e1 : (1 : Int32) * (s + -1 * f) = s - f := by rw [Int32.one_mul, ng1, ← Int32.sub_eq_add_neg]
    have e2 : s + -1 * (s - f) = f := by rw [ng1, Int32.neg_sub, Int32.add_comm, Int32.sub_add_cancel]
    have e3 : s - f + 1 * f = s := by rw [Int32.one_mul, Int32.sub_add_cancel]
    rw [e1, e2, e3]
  · rw [if_neg hl, if_neg hl, if_neg hl]
    have e1 : (0 : Int32) * (s + -1 * f) = 0 := Int32.zero_mul
    have e2 : s + -1 * (0 : Int32) = s := by rw [Int32.mul_zero, Int32.add_zero]
    have e3 : (0 : Int32) + 1 * f = f := by rw [Int32.one_mul, Int32.zero_add]
    rw [e1, e2, e3]
theorem swI_A : ∀ (n r : Nat) (X : ScT) (c : Nat) (u : (Nat → Int32) × ((Nat → Int32) × Int32)), X.2.2.2.2.2.1 = nI c → c + n ≤ 132 → r + n < 34 → (swI n r X).2.2.2.2.2.1 = nI (c + n) ∧ oA (swI n r X) u = (ceI n r (oA X u).1, (oA X u).2)
  | 0, r, X, c, u, hc, _, _ => ⟨hc, rfl⟩
  | n + 1, r, X, c, u, hc, hl, hr => by
    obtain ⟨h1, h2⟩ := swI_A n (r + 1) (adS X 6 (nI r) (nI r) (nI (r + 1)) 0) (c + 1) u (adS_n hc (by omega)) (by omega) (by omega)
    rw [oA_ad hc (by omega), ot_6 (by omega), opn_n (by decide)] at h2
    refine ⟨?_, h2⟩
    have e : c + (n + 1) = c + 1 + n := by omega
    rw [e]
    exact h1
def tri : Nat → Nat
  | 0 => 0
  | n + 1 => (n + 1) + tri n
theorem tri_e {n : Nat} (h : n ≤ 4) : n * (n + 1) / 2 = tri n := by
  have hc : n = 0 ∨ n = 1 ∨ n = 2 ∨ n = 3 ∨ n = 4 := by omega
  rcases hc with rfl | rfl | rfl | rfl | rfl <;> rfl
theorem swO_A (a : Nat) : ∀ (n : Nat) (X : ScT) (c : Nat) (u : (Nat → Int32) × ((Nat → Int32) × Int32)), X.2.2.2.2.2.1 = nI c → c + tri n ≤ 132 → a + n < 34 → (swO a n X).2.2.2.2.2.1 = nI (c + tri n) ∧ oA (swO a n X) u = (bub a n (oA X u).1, (oA X u).2)
  | 0, X, c, u, hc, _, _ => ⟨hc, rfl⟩
  | n + 1, X, c, u, hc, hl, hr => by
    have hl' : c + ((n + 1) + tri n) ≤ 132 := hl
    obtain ⟨h1, h2⟩ := swI_A (n + 1) a X c u hc (by omega) (by omega)
    obtain ⟨h3, h4⟩ := swO_A a n (swI (n + 1) a X) (c + (n + 1)) u h1 (by omega) (by omega)
    rw [h2] at h4
    refine ⟨?_, h4⟩
    show (swO a n (swI (n + 1) a X)).2.2.2.2.2.1 = nI (c + ((n + 1) + tri n))
    rw [← Nat.add_assoc]
    exact h3
def smV : Nat → Nat → (Nat → Int32) → (Nat → Int32)
  | 0, _, v => v
  | n + 1, r, v => smV n (r + 1) (upd v r (v r + v (r - 1)))
theorem ot_1 {r : Nat} {v : Nat → Int32} (h0 : 0 < r) (h : r < 34) : oTask 1 (nI r) (nI r - 1) (nI r) 0 v = upd v r (v r + v (r - 1)) := by
  unfold oTask
  rw [if_neg (by decide), if_neg (by decide), if_neg (by decide), if_neg (by decide), if_neg (by decide), if_neg (by decide), if_pos rfl, nI_p1 h0, opv_n (by omega), opv_n (by omega), nI_clamp (by omega), Int32.one_mul, Int32.add_comm]
theorem smI_A : ∀ (n r : Nat) (X : ScT) (c : Nat) (u : (Nat → Int32) × ((Nat → Int32) × Int32)), X.2.2.2.2.2.1 = nI c → c + n ≤ 132 → 0 < r → r + n ≤ 34 → (smI n r X).2.2.2.2.2.1 = nI (c + n) ∧ oA (smI n r X) u = (smV n r (oA X u).1, (oA X u).2)
  | 0, r, X, c, u, hc, _, _, _ => ⟨hc, rfl⟩
  | n + 1, r, X, c, u, hc, hl, h0, hr => by
    obtain ⟨h1, h2⟩ := smI_A n (r + 1) (adS X 1 (nI r) (nI r - 1) (nI r) 0) (c + 1) u (adS_n hc (by omega)) (by omega) (by omega) (by omega)
    rw [oA_ad hc (by omega), ot_1 h0 (by omega), opn_n (by decide)] at h2
    refine ⟨?_, h2⟩
    have e : c + (n + 1) = c + 1 + n := by omega
    rw [e]
    exact h1
theorem smV_n : ∀ (n r : Nat) (v : Nat → Int32) (j : Nat), r + n ≤ j → smV n r v j = v j
  | 0, _, _, _, _ => rfl
  | n + 1, r, v, j, h => by
    show smV n (r + 1) (upd v r (v r + v (r - 1))) j = _
    rw [smV_n n (r + 1) _ j (by omega), upd_ne (by omega)]
theorem sums_tie : ∀ (n r : Nat) (v fg : Nat → Int32), 0 < r → r + n ≤ 26 → (∀ j, j < 26 → v j = fg j) → ∀ j, j < 26 → smV n r v j = uS n r fg j
  | 0, r, v, fg, _, _, h => h
  | n + 1, r, v, fg, h0, hr, h => by
    intro j hj
    rw [uS_s (by omega), Nat.add_sub_cancel]
    refine sums_tie n (r + 1) _ _ (by omega) (by omega) (fun i hi => ?_) j hj
    rw [nI_p1 h0, nI_clamp (by omega), nI_clamp (by omega)]
    by_cases e : i = r
    · rw [e, upd_eq, upd_eq, h r (by omega), h (r - 1) (by omega)]
    · rw [upd_ne e, upd_ne e]; exact h i hi
def RgE (v fg : Nat → Int32) : Prop := ∀ j, j < 26 → v j = fg j
def InE (nd : Nat → Prop) (v fi : Nat → Int32) : Prop := ∀ i, i < 8 → nd i → v (26 + i) = fi i
theorem opv_v {nd : Nat → Prop} {v fg fi : Nat → Int32} {o : Int32} (hr : RgE v fg) (hi : InE nd v fi) (ho : OpV o) (hn : ∀ i, i < 8 → o = nI (100 + i) → nd i) : opv v (cd o) = o_Mo_valueOf_r fi fg o := by
  obtain ⟨n, ⟨h, rfl⟩ | ⟨h, rfl⟩ | ⟨h, rfl⟩⟩ := ho
  · rw [(cd_r h default).1, opv_n (by omega), hr n h]
    unfold o_Mo_valueOf_r
    rw [if_pos (lt_1000 (by omega)), if_pos (lt_100 (by omega)), nI_clamp (by omega)]
  · have e3 : nI (100 + n) - 100 = nI n := nI_sb 100 n
    rw [(cd_i h default).1, show (26 : Int32) + nI n = nI (26 + n) from nI_add 26 n, opv_n (by omega), hi n h (hn n h rfl)]
    unfold o_Mo_valueOf_r
    rw [if_pos (lt_1000 (by omega)), if_neg (nlt_100 (by omega) (by omega)), e3, nI_clamp (by omega)]
  · have e3 : nI (1000 + n) - 1000 = nI n := nI_sb 1000 n
    rw [(cd_n h default).1, show (34 : Int32) + nI n = nI (34 + n) from nI_add 34 n]
    unfold opv o_Mo_valueOf_r
    rw [if_neg (nlt_34 (by omega) (by omega)), if_neg (nlt_1000 (by omega) (by omega)), e3]
    exact nI_sb 34 n
