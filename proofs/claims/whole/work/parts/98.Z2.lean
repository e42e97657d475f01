/-! two ways to sort -/
def kU (x : Int32) : Nat := x.toBitVec.toNat
theorem kU_inj {x y : Int32} (h : kU x = kU y) : x = y := Int32.toBitVec_inj.mp (BitVec.eq_of_toNat_eq h)
def cn (t a : Nat) (g : Nat → Int32) : Nat → Nat
  | 0 => 0
  | n + 1 => cn t a g n + (if kU (g (a + n)) ≤ t then 1 else 0)
theorem cn_cg {t a : Nat} {g h : Nat → Int32} : ∀ n, (∀ p, a ≤ p → p < a + n → g p = h p) → cn t a g n = cn t a h n
  | 0, _ => rfl
  | n + 1, hp => by
    show cn t a g n + _ = cn t a h n + _
    rw [cn_cg n (fun p h1 h2 => hp p h1 (by omega)), hp (a + n) (by omega) (by omega)]
theorem cn_le {t a : Nat} {g : Nat → Int32} : ∀ n, cn t a g n ≤ n
  | 0 => Nat.le_refl _
  | n + 1 => by
    show cn t a g n + (if kU (g (a + n)) ≤ t then 1 else 0) ≤ n + 1
    have := cn_le (t := t) (a := a) (g := g) n
    split <;> omega
theorem cn_full {t a : Nat} {g : Nat → Int32} : ∀ n, (∀ p, a ≤ p → p < a + n → kU (g p) ≤ t) → cn t a g n = n
  | 0, _ => rfl
  | n + 1, hp => by
    show cn t a g n + (if kU (g (a + n)) ≤ t then 1 else 0) = n + 1
    rw [cn_full n (fun p h1 h2 => hp p h1 (by omega)), if_pos (hp (a + n) (by omega) (by omega))]
/-- two neighbours change places -/
theorem cn_sw {t a i : Nat} {g h : Nat → Int32} (hi : a ≤ i) (h1 : h i = g (i + 1)) (h2 : h (i + 1) = g i) (hr : ∀ p, ¬ p = i → ¬ p = i + 1 → h p = g p) : ∀ n, i + 1 < a + n → cn t a h n = cn t a g n
  | 0, hn => by omega
  | 1, hn => by omega
  | n + 2, hn => by
    by_cases q : i + 1 = a + (n + 1)
    · have e : i = a + n := by omega
      subst e
      show cn t a h n + (if kU (h (a + n)) ≤ t then 1 else 0) + (if kU (h (a + (n + 1))) ≤ t then 1 else 0) = cn t a g n + (if kU (g (a + n)) ≤ t then 1 else 0) + (if kU (g (a + (n + 1))) ≤ t then 1 else 0)
      rw [cn_cg (g := h) (h := g) n (fun p q1 q2 => hr p (by omega) (by omega))]
      have h2' : h (a + (n + 1)) = g (a + n) := h2
      have h1' : h (a + n) = g (a + (n + 1)) := h1
      rw [h1', h2']
      omega
    · show cn t a h (n + 1) + _ = cn t a g (n + 1) + _
      rw [cn_sw hi h1 h2 hr (n + 1) (by omega), hr (a + (n + 1)) (by omega) (by omega)]
def Srt (a n : Nat) (g : Nat → Int32) : Prop := ∀ p q, a ≤ p → p < q → q < a + n → kU (g p) ≤ kU (g q)
theorem srt_uq {a : Nat} {g h : Nat → Int32} : ∀ n, Srt a n g → Srt a n h → (∀ t, cn t a g n = cn t a h n) → ∀ j, a ≤ j → j < a + n → g j = h j
  | 0, _, _, _, j, h1, h2 => by omega
  | n + 1, sg, sh, hc, j, h1, h2 => by
    have key : ∀ (x y : Nat → Int32), Srt a (n + 1) x → (∀ t, cn t a x (n + 1) = cn t a y (n + 1)) → ¬ kU (x (a + n)) < kU (y (a + n)) := by
      intro x y sx hxy hlt
      have e1 : cn (kU (x (a + n))) a x (n + 1) = n + 1 := cn_full (n + 1) (fun p q1 q2 => by
        by_cases q : p = a + n
        · rw [q]; exact Nat.le_refl _
        · exact sx p (a + n) q1 (by omega) (by omega))
      have e2 : cn (kU (x (a + n))) a y (n + 1) ≤ n := by
        show cn (kU (x (a + n))) a y n + (if kU (y (a + n)) ≤ kU (x (a + n)) then 1 else 0) ≤ n
        rw [if_neg (by omega)]
        exact cn_le n
      rw [← hxy, e1] at e2
      omega
    have e : g (a + n) = h (a + n) := kU_inj (by
      have k1 := key g h sg hc
      have k2 := key h g sh (fun t => (hc t).symm)
      omega)
    by_cases q : j = a + n
    · rw [q]; exact e
    · refine srt_uq n (fun p q h1 h2 h3 => sg p q h1 h2 (by omega)) (fun p q h1 h2 h3 => sh p q h1 h2 (by omega)) (fun t => ?_) j h1 (by omega)
      have := hc t
      have this : cn t a g n + (if kU (g (a + n)) ≤ t then 1 else 0) = cn t a h n + (if kU (h (a + n)) ≤ t then 1 else 0) := this
      rw [e] at this
      omega
/-- the smaller one first -/
def ce (r : Nat) (v : Nat → Int32) : Nat → Int32 := upd (upd v (r + 1) (if kU (v (r + 1)) < kU (v r) then v r else v (r + 1))) r (if kU (v (r + 1)) < kU (v r) then v (r + 1) else v r)
theorem ce_r (r : Nat) (v : Nat → Int32) : ce r v r = if kU (v (r + 1)) < kU (v r) then v (r + 1) else v r := upd_eq
theorem ce_s (r : Nat) (v : Nat → Int32) : ce r v (r + 1) = if kU (v (r + 1)) < kU (v r) then v r else v (r + 1) := by
  unfold ce; rw [upd_ne (by omega)]; exact upd_eq
theorem ce_n {r j : Nat} {v : Nat → Int32} (h1 : ¬ j = r) (h2 : ¬ j = r + 1) : ce r v j = v j := by
  unfold ce; rw [upd_ne h1, upd_ne h2]
theorem ce_cn {t a n r : Nat} {v : Nat → Int32} (h1 : a ≤ r) (h2 : r + 1 < a + n) : cn t a (ce r v) n = cn t a v n := by
  by_cases h : kU (v (r + 1)) < kU (v r)
  · exact cn_sw h1 (by rw [ce_r, if_pos h]) (by rw [ce_s, if_pos h]) (fun p q1 q2 => ce_n q1 q2) n h2
  · refine cn_cg n (fun p q1 q2 => ?_)
    by_cases e1 : p = r
    · rw [e1, ce_r, if_neg h]
    · by_cases e2 : p = r + 1
      · rw [e2, ce_s, if_neg h]
      · exact ce_n e1 e2
theorem ce_up {b a c r : Nat} {v : Nat → Int32} (h1 : a ≤ r) (h2 : r + 1 ≤ c) (h : ∀ p, a ≤ p → p ≤ c → kU (v p) ≤ b) : ∀ p, a ≤ p → p ≤ c → kU (ce r v p) ≤ b := by
  intro p q1 q2
  by_cases e1 : p = r
  · rw [e1, ce_r]; split <;> exact h _ (by omega) (by omega)
  · by_cases e2 : p = r + 1
    · rw [e2, ce_s]; split <;> exact h _ (by omega) (by omega)
    · rw [ce_n e1 e2]; exact h p q1 q2
def ceI : Nat → Nat → (Nat → Int32) → (Nat → Int32)
  | 0, _, v => v
  | n + 1, r, v => ceI n (r + 1) (ce r v)
theorem ceI_n : ∀ (n r : Nat) (v : Nat → Int32) (j : Nat), (j < r ∨ r + n < j) → ceI n r v j = v j
  | 0, _, _, _, _ => rfl
  | n + 1, r, v, j, h => by
    show ceI n (r + 1) (ce r v) j = _
    rw [ceI_n n (r + 1) _ j (by omega), ce_n (by omega) (by omega)]
theorem ceI_cn {t a N : Nat} : ∀ (n r : Nat) (v : Nat → Int32), a ≤ r → r + n < a + N → cn t a (ceI n r v) N = cn t a v N
  | 0, _, _, _, _ => rfl
  | n + 1, r, v, h1, h2 => by
    show cn t a (ceI n (r + 1) (ce r v)) N = _
    rw [ceI_cn n (r + 1) _ (by omega) (by omega), ce_cn h1 (by omega)]
theorem ceI_up {b a c : Nat} : ∀ (n r : Nat) (v : Nat → Int32), a ≤ r → r + n ≤ c → (∀ p, a ≤ p → p ≤ c → kU (v p) ≤ b) → ∀ p, a ≤ p → p ≤ c → kU (ceI n r v p) ≤ b
  | 0, _, _, _, _, h => h
  | n + 1, r, v, h1, h2, h => ceI_up n (r + 1) (ce r v) (by omega) (by omega) (ce_up h1 (by omega) h)
theorem ceI_mx {a : Nat} : ∀ (n r : Nat) (v : Nat → Int32), a ≤ r → (∀ p, a ≤ p → p ≤ r → kU (v p) ≤ kU (v r)) → ∀ p, a ≤ p → p ≤ r + n → kU (ceI n r v p) ≤ kU (ceI n r v (r + n))
  | 0, _, _, _, h => h
  | n + 1, r, v, h1, h => by
    have e : r + (n + 1) = r + 1 + n := by omega
    rw [e]
    refine ceI_mx n (r + 1) (ce r v) (by omega) (fun p q1 q2 => ?_)
    have hrr := h r h1 (Nat.le_refl _)
    rw [ce_s]
    by_cases e1 : p = r
    · rw [e1, ce_r]; split <;> omega
    · by_cases e2 : p = r + 1
      · rw [e2, ce_s]; exact Nat.le_refl _
      · rw [ce_n e1 e2]
        have := h p q1 (by omega)
        split <;> omega
def bub (a : Nat) : Nat → (Nat → Int32) → (Nat → Int32)
  | 0, v => v
  | n + 1, v => bub a n (ceI (n + 1) a v)
theorem bub_n {a : Nat} : ∀ (n : Nat) (v : Nat → Int32) (j : Nat), (j < a ∨ a + n < j) → bub a n v j = v j
  | 0, _, _, _ => rfl
  | n + 1, v, j, h => by
    show bub a n (ceI (n + 1) a v) j = _
    rw [bub_n n _ j (by omega), ceI_n (n + 1) a v j (by omega)]
theorem bub_cn {t a N : Nat} : ∀ (n : Nat) (v : Nat → Int32), n < N → cn t a (bub a n v) N = cn t a v N
  | 0, _, _ => rfl
  | n + 1, v, h => by
    show cn t a (bub a n (ceI (n + 1) a v)) N = _
    rw [bub_cn n _ (by omega), ceI_cn (n + 1) a v (Nat.le_refl _) (by omega)]
theorem bub_s {a N : Nat} : ∀ (n : Nat) (v : Nat → Int32), n < N → (∀ p q, a ≤ p → p < q → q < a + N → a + n < q → kU (v p) ≤ kU (v q)) → Srt a N (bub a n v)
  | 0, v, _, h => fun p q h1 h2 h3 => h p q h1 h2 h3 (by omega)
  | n + 1, v, hn, h => by
    refine bub_s n (ceI (n + 1) a v) (by omega) (fun p q h1 h2 h3 h4 => ?_)
    by_cases e : q = a + (n + 1)
    · rw [e]
      exact ceI_mx (n + 1) a v (Nat.le_refl _) (fun p' q1 q2 => by
        have : p' = a := by omega
        rw [this]; exact Nat.le_refl _) p h1 (by omega)
    · rw [ceI_n (n + 1) a v q (by omega)]
      by_cases e2 : p ≤ a + (n + 1)
      · exact ceI_up (c := a + (n + 1)) (n + 1) a v (Nat.le_refl _) (Nat.le_refl _) (fun p' q1 q2 => h p' q q1 (by omega) h3 (by omega)) p h1 e2
      · rw [ceI_n (n + 1) a v p (by omega)]
        exact h p q h1 h2 h3 (by omega)
theorem mLess_k (x : Int32) : (x.toInt64 &&& 4294967295).toInt = (kU x : Int) := by
  have e : (x.toInt64 &&& 4294967295).toBitVec.toNat = kU x := by
    rw [Int64.toBitVec_and, BitVec.toNat_and]
    show x.toInt64.toBitVec.toNat &&& (2 ^ 32 - 1) = _
    rw [Nat.and_two_pow_sub_one_eq_mod, ← BitVec.toNat_setWidth]
    have h := congrArg Int32.toBitVec (i6432 x)
    rw [Int64.toBitVec_toInt32, BitVec.signExtend_eq_setWidth_of_le _ (by decide)] at h
    rw [h]
    rfl
  show (x.toInt64 &&& 4294967295).toBitVec.toInt = _
  rw [BitVec.toInt_eq_toNat_of_lt, e]
  rw [e]
  have : kU x < 2 ^ 32 := x.toBitVec.isLt
  omega
theorem mLess (x y : Int32) : o_Mo_isLess_r x y = if kU x < kU y then 1 else 0 := by
  unfold o_Mo_isLess_r
  by_cases h : kU x < kU y
  · rw [if_neg, if_pos h]
    rw [lg_cmp_ge, Int64.le_iff_toInt_le, mLess_k, mLess_k]
    omega
  · rw [if_pos, if_neg h]
    rw [lg_cmp_ge, Int64.le_iff_toInt_le, mLess_k, mLess_k]
    omega
theorem oLess_k (x y : Int32) : oLess x y = if kU x < kU y then 1 else 0 := by
  unfold oLess
  by_cases h : kU x < kU y
  · rw [if_pos h, if_pos]
    exact decide_eq_true h
  · rw [if_neg h, if_neg]
    exact fun q => h (of_decide_eq_true q)
/-- one number goes to its place -/
theorem iI_ok {a i : Nat} {v : Int32} (hi : i < 1000) : ∀ (u k : Nat) (g : Nat → Int32), a ≤ k → k ≤ i → k - a < u → (∀ p q, a ≤ p → p < q → q ≤ i → ¬ p = k → ¬ q = k → kU (g p) ≤ kU (g q)) → (∀ q, k < q → q ≤ i → kU v ≤ kU (g q)) →
    ∃ k' g', iI a v u k g = (k', g') ∧ a ≤ k' ∧ k' ≤ i ∧ Srt a (i + 1 - a) (upd g' k' v) ∧ (∀ t N, i < a + N → cn t a (upd g' k' v) N = cn t a (upd g k v) N) ∧ (∀ j, (j < a ∨ i < j) → upd g' k' v j = g j)
  | 0, k, g, h1, h2, h3, h4, h5 => by omega
  | u + 1, k, g, h1, h2, h3, h4, h5 => by
    rw [iI_s (by omega), Nat.add_sub_cancel]
    have fin : (k = a ∨ kU (g (k - 1)) ≤ kU v) → ∃ k' g', (k, g) = (k', g') ∧ a ≤ k' ∧ k' ≤ i ∧ Srt a (i + 1 - a) (upd g' k' v) ∧ (∀ t N, i < a + N → cn t a (upd g' k' v) N = cn t a (upd g k v) N) ∧ (∀ j, (j < a ∨ i < j) → upd g' k' v j = g j) := by
      intro hk
      refine ⟨k, g, rfl, h1, h2, fun p q q1 q2 q3 => ?_, fun _ _ _ => rfl, fun j hj => upd_ne (by omega)⟩
      by_cases e1 : p = k
      · rw [e1, upd_eq, upd_ne (by omega)]; exact h5 q (by omega) (by omega)
      · by_cases e2 : q = k
        · rw [e2, upd_eq, upd_ne e1]
          rcases hk with hk | hk
          · omega
          · by_cases e3 : p = k - 1
            · rw [e3]; exact hk
            · exact Nat.le_trans (h4 p (k - 1) q1 (by omega) (by omega) e1 (by omega)) hk
        · rw [upd_ne e1, upd_ne e2]; exact h4 p q q1 q2 (by omega) e1 e2
    by_cases hk : nI k ≤ nI a
    · rw [if_pos hk]
      have : k ≤ a := (nI_leI (by omega) (by omega)).mp hk
      exact fin (Or.inl (by omega))
    · rw [if_neg hk]
      have hka : a < k := by
        apply Nat.lt_of_not_le
        intro q
        exact hk (nI_le q (by omega))
      have ec : (nI k - 1).toNatClampNeg = k - 1 := by rw [nI_p1 (by omega), nI_clamp (by omega)]
      have ek : (nI k).toNatClampNeg = k := nI_clamp (by omega)
      rw [ec, mLess]
      by_cases hl : kU v < kU (g (k - 1))
      · rw [if_neg (by rw [if_pos hl]; decide), ek]
        obtain ⟨k', g', r1, r2, r3, r4, r5, r6⟩ := iI_ok (a := a) (i := i) (v := v) hi u (k - 1) (upd g k (g (k - 1))) (by omega) (by omega) (by omega) (fun p q q1 q2 q3 q4 q5 => by
          by_cases e1 : p = k
          · rw [e1, upd_eq, upd_ne (by omega)]; exact h4 (k - 1) q (by omega) (by omega) q3 (by omega) (by omega)
          · by_cases e2 : q = k
            · rw [e2, upd_eq, upd_ne e1]; exact h4 p (k - 1) q1 (by omega) (by omega) e1 (by omega)
            · rw [upd_ne e1, upd_ne e2]; exact h4 p q q1 q2 q3 e1 e2) (fun q q1 q2 => by
          by_cases e2 : q = k
          · rw [e2, upd_eq]; omega
          · rw [upd_ne e2]; exact h5 q (by omega) q2)
        refine ⟨k', g', r1, r2, r3, r4, fun t N hN => ?_, fun j hj => ?_⟩
        · rw [r5 t N hN]
          refine cn_sw (i := k - 1) (by omega) ?_ ?_ (fun p q1 q2 => ?_) N (by omega)
          · rw [upd_eq, Nat.sub_add_cancel (by omega), upd_eq]
          · rw [Nat.sub_add_cancel (by omega), upd_ne (by omega), upd_eq, upd_ne (by omega)]
          · rw [Nat.sub_add_cancel (by omega)] at q2
            rw [upd_ne q1, upd_ne q2, upd_ne q2]
        · rw [r6 j hj, upd_ne (by omega)]
      · rw [if_pos (by rw [if_neg hl])]
        exact fin (Or.inr (by omega))
theorem iS_ok {a : Nat} : ∀ (u i : Nat) (g : Nat → Int32), a < i → i + u < 1000 → Srt a (i - a) g → Srt a (i + u - a) (iS a u i g) ∧ (∀ t N, i + u ≤ a + N → cn t a (iS a u i g) N = cn t a g N) ∧ (∀ j, (j < a ∨ i + u ≤ j) → iS a u i g j = g j)
  | 0, i, g, h1, h2, h3 => ⟨h3, fun _ _ _ => rfl, fun _ _ => rfl⟩
  | u + 1, i, g, h1, h2, h3 => by
    rw [iS_s (by omega), Nat.add_sub_cancel, nI_clamp (n := i) (by omega)]
    obtain ⟨k', g', r1, r2, r3, r4, r5, r6⟩ := iI_ok (a := a) (i := i) (v := g i) (by omega) (i + 1) i g (by omega) (Nat.le_refl _) (by omega) (fun p q q1 q2 q3 q4 q5 => h3 p q q1 q2 (by omega)) (fun q q1 q2 => by omega)
    rw [r1]
    dsimp only
    rw [nI_clamp (n := k') (by omega)]
    have eg : ∀ p, upd g i (g i) p = g p := by
      intro p
      by_cases e : p = i
      · rw [e, upd_eq]
      · rw [upd_ne e]
    obtain ⟨s1, s2, s3⟩ := iS_ok (a := a) u (i + 1) (upd g' k' (g i)) (by omega) (by omega) r4
    refine ⟨?_, fun t N hN => ?_, fun j hj => ?_⟩
    · have : i + (u + 1) - a = i + 1 + u - a := by omega
      rw [this]; exact s1
    · rw [s2 t N (by omega), r5 t N (by omega)]
      exact cn_cg N (fun p _ _ => eg p)
    · rw [s3 j (by omega), r6 j (by omega)]
/-- both ways come to the same -/
theorem sort_tie {a n : Nat} {v fg : Nat → Int32} (hn : a + n < 26) (h : ∀ j, j < 26 → v j = fg j) : ∀ j, j < 26 → bub a n v j = iS a n (a + 1) fg j := by
  intro j hj
  obtain ⟨s1, s2, s3⟩ := iS_ok (a := a) n (a + 1) fg (by omega) (by omega) (fun p q h1 h2 h3 => by omega)
  by_cases hin : a ≤ j ∧ j ≤ a + n
  · have e : a + 1 + n - a = n + 1 := by omega
    rw [e] at s1
    refine srt_uq (n + 1) (bub_s n v (by omega) (fun p q h1 h2 h3 h4 => by omega)) s1 (fun t => ?_) j hin.1 (by omega)
    rw [bub_cn n v (by omega), s2 t (n + 1) (by omega)]
    exact cn_cg (n + 1) (fun p h1 h2 => h p (by omega))
  · rw [bub_n n v j (by omega), s3 j (by omega)]
    exact h j hj
