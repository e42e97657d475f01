/-! the rows, and the script that they make -/
def bX (fd : Nat → Int32) (X0 : ScT) : Nat → ScT
  | 0 => X0
  | n + 1 => rowX (bX fd X0 n) (fd (6 * n)) (fd (6 * n + 1)).toNatClampNeg (fd (6 * n + 2)) (fd (6 * n + 3)) (fd (6 * n + 4)) (fd (6 * n + 5)).toNatClampNeg
def cI (fd : Nat → Int32) : Nat → Nat
  | 0 => 0
  | n + 1 => cI fd n + rT (fd (6 * n)) (fd (6 * n + 1)).toNatClampNeg (fd (6 * n + 5)).toNatClampNeg
def oI (fd : Nat → Int32) : Nat → Nat
  | 0 => 0
  | n + 1 => oI fd n + rO (fd (6 * n))
def RBK (fd : Nat → Int32) (n : Nat) : Prop := ∀ k, k < n → ∃ r z, fd (6 * k + 1) = nI r ∧ fd (6 * k + 5) = nI z ∧ RowOk (fd (6 * k)) r (fd (6 * k + 2)) (fd (6 * k + 3)) (fd (6 * k + 4)) z
theorem bX_cg {fd' fd : Nat → Int32} {X0 : ScT} : ∀ (n : Nat), (∀ j, j < 6 * n → fd' j = fd j) → bX fd' X0 n = bX fd X0 n
  | 0, _ => rfl
  | n + 1, h => by
    show rowX (bX fd' X0 n) (fd' (6 * n)) (fd' (6 * n + 1)).toNatClampNeg (fd' (6 * n + 2)) (fd' (6 * n + 3)) (fd' (6 * n + 4)) (fd' (6 * n + 5)).toNatClampNeg = _
    rw [bX_cg n (fun j hj => h j (by omega)), h _ (by omega), h _ (by omega), h _ (by omega), h _ (by omega), h _ (by omega), h _ (by omega)]
    rfl
theorem cI_cg {fd' fd : Nat → Int32} : ∀ (n : Nat), (∀ j, j < 6 * n → fd' j = fd j) → cI fd' n = cI fd n
  | 0, _ => rfl
  | n + 1, h => by
    show cI fd' n + rT (fd' (6 * n)) (fd' (6 * n + 1)).toNatClampNeg (fd' (6 * n + 5)).toNatClampNeg = _
    rw [cI_cg n (fun j hj => h j (by omega)), h _ (by omega), h _ (by omega), h _ (by omega)]
    rfl
theorem oI_cg {fd' fd : Nat → Int32} : ∀ (n : Nat), (∀ j, j < 6 * n → fd' j = fd j) → oI fd' n = oI fd n
  | 0, _ => rfl
  | n + 1, h => by
    show oI fd' n + rO (fd' (6 * n)) = _
    rw [oI_cg n (fun j hj => h j (by omega)), h _ (by omega)]
    rfl
theorem RBK_cg {fd' fd : Nat → Int32} {n : Nat} (h : ∀ j, j < 6 * n → fd' j = fd j) (hb : RBK fd n) : RBK fd' n := by
  intro k hk
  rw [h _ (by omega), h _ (by omega), h _ (by omega), h _ (by omega), h _ (by omega), h _ (by omega)]
  exact hb k hk
theorem adS_c (X : ScT) (a t f s h : Int32) : (adS X a t f s h).2.2.2.2.2.2 = X.2.2.2.2.2.2 := by
  unfold adS
  split <;> rfl
theorem swI_c : ∀ (n r : Nat) (X : ScT), (swI n r X).2.2.2.2.2.2 = X.2.2.2.2.2.2
  | 0, _, _ => rfl
  | n + 1, r, X => by
    show (swI n (r + 1) (adS X 6 (nI r) (nI r) (nI (r + 1)) 0)).2.2.2.2.2.2 = _
    rw [swI_c n, adS_c]
theorem swO_c (a : Nat) : ∀ (n : Nat) (X : ScT), (swO a n X).2.2.2.2.2.2 = X.2.2.2.2.2.2
  | 0, _ => rfl
  | n + 1, X => by
    show (swO a n (swI (n + 1) a X)).2.2.2.2.2.2 = _
    rw [swO_c a n, swI_c]
theorem smI_c : ∀ (n r : Nat) (X : ScT), (smI n r X).2.2.2.2.2.2 = X.2.2.2.2.2.2
  | 0, _, _ => rfl
  | n + 1, r, X => by
    show (smI n (r + 1) (adS X 1 (nI r) (nI r - 1) (nI r) 0)).2.2.2.2.2.2 = _
    rw [smI_c n, adS_c]
theorem tkC_v {X : ScT} {x : Int32} (h : X.2.2.2.2.2.2.1 + x ≤ 12) : (tkC X x).2.2.2.2.2.2.2.1 = X.2.2.2.2.2.2.1 + x ∧ (tkC X x).2.2.2.2.2.2.2.2 = X.2.2.2.2.2.2.2 := by
  unfold tkC; rw [if_pos h]; exact ⟨rfl, rfl⟩
theorem tkO_v {X : ScT} (h : X.2.2.2.2.2.2.2.1 < 16) : (tkO X).2.2.2.2.2.2.2.1 = X.2.2.2.2.2.2.1 ∧ (tkO X).2.2.2.2.2.2.2.2.1 = X.2.2.2.2.2.2.2.1 + 1 := by
  unfold tkO; rw [if_pos h]; exact ⟨rfl, rfl⟩
theorem adS_c1 (X : ScT) (a t f s h : Int32) : (adS X a t f s h).2.2.2.2.2.2.1 = X.2.2.2.2.2.2.1 ∧ (adS X a t f s h).2.2.2.2.2.2.2.1 = X.2.2.2.2.2.2.2.1 := by
  rw [adS_c]; exact ⟨rfl, rfl⟩
/-- comparisons and opens of a script with one row more -/
theorem rowX_c {X : ScT} {w : Int32} {r : Nat} {o2 o3 o4 : Int32} {z m o : Nat} (hok : RowOk w r o2 o3 o4 z) (hX : X.2.2.2.2.2.2.1 = nI m) (hX2 : X.2.2.2.2.2.2.2.1 = nI o) (hm : m + rC w r z ≤ 12) (ho : o + rO w ≤ 16) : (rowX X w r o2 o3 o4 z).2.2.2.2.2.2.1 = nI (m + rC w r z) ∧ (rowX X w r o2 o3 o4 z).2.2.2.2.2.2.2.1 = nI (o + rO w) := by
  have n1 : ∀ v, (nmV X v).2.2.2.2.2.2.1 = nI m ∧ (nmV X v).2.2.2.2.2.2.2.1 = nI o := fun v => ⟨(nmV_c X v).1.trans hX, (nmV_c X v).2.trans hX2⟩
  have c1 : ∀ v, m + 1 ≤ 12 → (tkC (nmV X v) 1).2.2.2.2.2.2.2.1 = nI (m + 1) ∧ (tkC (nmV X v) 1).2.2.2.2.2.2.2.2.1 = nI o := by
    intro v h12
    have h : (nmV X v).2.2.2.2.2.2.1 + 1 ≤ 12 := by rw [(n1 v).1, nI_1]; exact nI_le (b := 12) h12 (by decide)
    rw [(tkC_v h).1, (tkC_v h).2, (n1 v).1, (n1 v).2, nI_1]
    exact ⟨rfl, rfl⟩
  obtain ⟨-, -, -, -, -, hw, -⟩ := hok
  rcases hw with (rfl | rfl | rfl | rfl | rfl | rfl | rfl) | ⟨rfl | rfl, -, -⟩
  · rw [rowX_0, (adS_c1 _ _ _ _ _ _).1, (adS_c1 _ _ _ _ _ _).2, rC_0, rO_0]; exact n1 _
  · rw [rowX_1, (adS_c1 _ _ _ _ _ _).1, (adS_c1 _ _ _ _ _ _).2, (nmV_c _ _).1, (nmV_c _ _).2, rC_1, rO_1]; exact n1 _
  · rw [rowX_2, (adS_c1 _ _ _ _ _ _).1, (adS_c1 _ _ _ _ _ _).2, (nmV_c _ _).1, (nmV_c _ _).2, rC_2, rO_2]; exact n1 _
  · rw [rowX_3, (adS_c1 _ _ _ _ _ _).1, (adS_c1 _ _ _ _ _ _).2, (nmV_c _ _).1, (nmV_c _ _).2, rC_3, rO_3]; exact n1 _
  · rw [rowX_4, (adS_c1 _ _ _ _ _ _).1, (adS_c1 _ _ _ _ _ _).2, (nmV_c _ _).1, (nmV_c _ _).2, rC_4, rO_4]; exact c1 _ hm
  · rw [rowX_5, (adS_c1 _ _ _ _ _ _).1, (adS_c1 _ _ _ _ _ _).2, (nmV_c _ _).1, (nmV_c _ _).2, (nmV_c _ _).1, (nmV_c _ _).2, rC_5, rO_5]; exact c1 _ hm
  · rw [rowX_8, (adS_c1 _ _ _ _ _ _).1, (adS_c1 _ _ _ _ _ _).2, rC_8, rO_8]
    rw [rO_8] at ho
    have h : X.2.2.2.2.2.2.2.1 < 16 := by rw [hX2]; exact nI_lt (b := 16) (by omega) (by decide)
    rw [(tkO_v h).1, (tkO_v h).2, hX, hX2, nI_1]
    exact ⟨rfl, rfl⟩
  · rw [rowX_6, swO_c, rC_6, rO_6]
    rw [rC_6] at hm
    have h : X.2.2.2.2.2.2.1 + nI ((z - r) * (z - r + 1) / 2) ≤ 12 := by rw [hX, nI_add]; exact nI_le (b := 12) hm (by decide)
    rw [(tkC_v h).1, (tkC_v h).2, hX, hX2, nI_add]
    exact ⟨rfl, rfl⟩
  · rw [rowX_7, smI_c, rC_7, rO_7]; exact ⟨hX, hX2⟩
/-- every task can be carried out, also those behind the count -/
def SOk (X : ScT) : Prop := ∀ j, ¬ X.2.2.1 j < 0 ∧ ¬ X.2.2.2.1 j < 0 ∧ ¬ X.2.2.2.2.1 j < 0 ∧ vp_in (X.2.1 j) 34 ∧ (X.1 j = 6 → vp_in (X.2.2.2.1 j) 34) ∧ okK (X.1 j)
theorem SOk.same {X Y : ScT} (h : SOk X) (hs : SameA X Y) : SOk Y := by
  obtain ⟨h1, h2, h3, h4, h5, -⟩ := hs
  intro j
  rw [h1, h2, h3, h4, h5]
  exact h j
theorem upd_c {P : Int32 → Prop} {f : Nat → Int32} {i : Nat} {v : Int32} (hv : P v) (hf : ∀ j, P (f j)) (j : Nat) : P (upd f i v j) := by
  by_cases h : j = i
  · rw [h, upd_eq]; exact hv
  · rw [upd_ne h]; exact hf j
theorem adS_ok {X : ScT} {a t f s h : Int32} (hX : SOk X) (ha : okK a) (ht : vp_in t 34) (hf : ¬ f < 0) (hs : ¬ s < 0) (hh : ¬ h < 0) (h6 : a = 6 → vp_in s 34) : SOk (adS X a t f s h) := by
  unfold adS
  split
  · intro j
    show ¬ upd X.2.2.1 _ f j < 0 ∧ ¬ upd X.2.2.2.1 _ s j < 0 ∧ ¬ upd X.2.2.2.2.1 _ h j < 0 ∧ vp_in (upd X.2.1 _ t j) 34 ∧ (upd X.1 _ a j = 6 → vp_in (upd X.2.2.2.1 _ s j) 34) ∧ okK (upd X.1 _ a j)
    by_cases hj : j = X.2.2.2.2.2.1.toNatClampNeg
    · rw [hj, upd_eq, upd_eq, upd_eq, upd_eq, upd_eq]; exact ⟨hf, hs, hh, ht, h6, ha⟩
    · rw [upd_ne hj, upd_ne hj, upd_ne hj, upd_ne hj, upd_ne hj]; exact hX j
  · exact hX
theorem okK_6 : okK 6 := Or.inr (Or.inr (Or.inr (Or.inr (Or.inr (Or.inr (Or.inl rfl))))))
theorem swI_ok : ∀ (n r : Nat) (X : ScT), r + n < 34 → SOk X → SOk (swI n r X)
  | 0, _, _, _, h => h
  | n + 1, r, X, hr, h => swI_ok n (r + 1) _ (by omega) (adS_ok h okK_6 (vp_in_nI (by omega) (by decide)) (nI_pos (by omega)) (nI_pos (by omega)) (by decide) (fun _ => vp_in_nI (by omega) (by decide)))
theorem swO_ok (a : Nat) : ∀ (n : Nat) (X : ScT), a + n < 34 → SOk X → SOk (swO a n X)
  | 0, _, _, h => h
  | n + 1, X, hr, h => swO_ok a n _ (by omega) (swI_ok (n + 1) a X (by omega) h)
theorem smI_ok : ∀ (n r : Nat) (X : ScT), 0 < r → r + n ≤ 34 → SOk X → SOk (smI n r X)
  | 0, _, _, _, _, h => h
  | n + 1, r, X, h0, hr, h => smI_ok n (r + 1) _ (by omega) (by omega) (adS_ok h (Or.inr (Or.inl rfl)) (vp_in_nI (by omega) (by decide)) (by rw [nI_p1 h0]; exact nI_pos (by omega)) (nI_pos (by omega)) (by decide) (fun q => absurd q (by decide)))
theorem cd_p {v : Int32} (h : OpV v) : ¬ cd v < 0 := by
  obtain ⟨c, hc, e⟩ := cd_nn h
  rw [e]; exact nI_pos (by omega)
theorem rowX_ok {X : ScT} {w : Int32} {r : Nat} {o2 o3 o4 : Int32} {z : Nat} (hok : RowOk w r o2 o3 o4 z) (h : SOk X) : SOk (rowX X w r o2 o3 o4 z) := by
  obtain ⟨hr, hz, h2, h3, h4, hw, -⟩ := hok
  have ht : vp_in (nI r) 34 := vp_in_nI (by omega) (by decide)
  have hnm : ∀ v, SOk (nmV X v) := fun v => h.same (nmV_a X v)
  rcases hw with (rfl | rfl | rfl | rfl | rfl | rfl | rfl) | ⟨rfl | rfl, q1, q2⟩
  · rw [rowX_0]; exact adS_ok (hnm _) (Or.inl rfl) ht (cd_p h2) (by decide) (by decide) (fun q => absurd q (by decide))
  · rw [rowX_1]; exact adS_ok ((hnm _).same (nmV_a _ _)) (Or.inr (Or.inl rfl)) ht (cd_p h2) (cd_p h3) (by decide) (fun q => absurd q (by decide))
  · rw [rowX_2]; exact adS_ok ((hnm _).same (nmV_a _ _)) (Or.inr (Or.inr (Or.inl rfl))) ht (cd_p h2) (cd_p h3) (by decide) (fun q => absurd q (by decide))
  · rw [rowX_3]; exact adS_ok ((hnm _).same (nmV_a _ _)) (Or.inr (Or.inr (Or.inr (Or.inl rfl)))) ht (cd_p h2) (cd_p h3) (by decide) (fun q => absurd q (by decide))
  · rw [rowX_4]; exact adS_ok (((hnm _).same (tkC_a _ _)).same (nmV_a _ _)) (Or.inr (Or.inr (Or.inr (Or.inr (Or.inl rfl))))) ht (cd_p h2) (cd_p h3) (by decide) (fun q => absurd q (by decide))
  · rw [rowX_5]; exact adS_ok ((((hnm _).same (tkC_a _ _)).same (nmV_a _ _)).same (nmV_a _ _)) (Or.inr (Or.inr (Or.inr (Or.inr (Or.inr (Or.inl rfl)))))) ht (cd_p h2) (cd_p h3) (cd_p h4) (fun q => absurd q (by decide))
  · rw [rowX_8]; exact adS_ok (h.same (tkO_a X)) (Or.inr (Or.inr (Or.inr (Or.inr (Or.inr (Or.inr (Or.inr rfl))))))) (vp_in_nI (n := 0) (by decide) (by decide)) (nI_pos (by omega)) (by decide) (by decide) (fun q => absurd q (by decide))
  · rw [rowX_6]; exact swO_ok r _ _ (by omega) (h.same (tkC_a _ _))
  · rw [rowX_7]; exact smI_ok _ _ _ (by omega) (by omega) h
