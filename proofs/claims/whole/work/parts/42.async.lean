/-! three who go on by messages that come in any order: each has done k i of K steps; wt t: behind step t it waits for the message numbered sn t of the next one, who sends it in its own step t -/
def as_nx (i : Nat) : Nat := if i = 0 then 1 else if i = 1 then 2 else 0
def as_pv (i : Nat) : Nat := if i = 0 then 2 else if i = 1 then 0 else 1
theorem as_nx_lt {i : Nat} (h : i < 3) : as_nx i < 3 := by unfold as_nx; split <;> (try split) <;> omega
theorem as_nxpv {i : Nat} (h : i < 3) : as_nx (as_pv i) = i := by
  rcases (show i = 0 ∨ i = 1 ∨ i = 2 by omega) with rfl | rfl | rfl <;> rfl
theorem as_pvnx {i : Nat} (h : i < 3) : as_pv (as_nx i) = i := by
  rcases (show i = 0 ∨ i = 1 ∨ i = 2 by omega) with rfl | rfl | rfl <;> rfl
theorem as_pv_lt {i : Nat} (h : i < 3) : as_pv i < 3 := by unfold as_pv; split <;> (try split) <;> omega
theorem as_nx_ne {i : Nat} (h : i < 3) : as_nx i ≠ i := by
  rcases (show i = 0 ∨ i = 1 ∨ i = 2 by omega) with rfl | rfl | rfl <;> decide
theorem as_nx3 {i : Nat} (h : i < 3) : as_nx (as_nx (as_nx i)) = i := by
  rcases (show i = 0 ∨ i = 1 ∨ i = 2 by omega) with rfl | rfl | rfl <;> rfl
/-- the clock: how many were sent -/
def as_C (K : Nat) (wt : Nat → Bool) (sn : Nat → Nat) : Prop := sn 0 = 0 ∧ wt 0 = false ∧ wt K = false ∧ ∀ k, k < K → sn (k + 1) = sn k + (if wt (k + 1) = true then 1 else 0)
theorem as_mono {K : Nat} {wt : Nat → Bool} {sn : Nat → Nat} (hC : as_C K wt sn) : ∀ {a b : Nat}, a ≤ b → b ≤ K → sn a ≤ sn b ∧ sn b ≤ sn a + (b - a) := by
  intro a b hab hb
  induction b with
  | zero => have : a = 0 := by omega
            subst this; simp
  | succ b ih =>
    by_cases h : a = b + 1
    · subst h; simp
    · have h1 := ih (by omega) (by omega)
      have h2 := hC.2.2.2 b (by omega)
      split at h2 <;> omega
theorem as_strict {K : Nat} {wt : Nat → Bool} {sn : Nat → Nat} (hC : as_C K wt sn) {a b : Nat} (hab : a < b) (hb : b ≤ K) (hw : wt b = true) : sn a < sn b := by
  obtain ⟨c, rfl⟩ : ∃ c, b = c + 1 := ⟨b - 1, by omega⟩
  have h1 := (as_mono hC (show a ≤ c by omega) (by omega)).1
  have h2 := hC.2.2.2 c (by omega)
  rw [if_pos hw] at h2
  omega
theorem as_uniq {K : Nat} {wt : Nat → Bool} {sn : Nat → Nat} (hC : as_C K wt sn) {a b : Nat} (ha : a ≤ K) (hb : b ≤ K) (wa : wt a = true) (wb : wt b = true) (h : sn a = sn b) : a = b := by
  rcases Nat.lt_trichotomy a b with q | q | q
  · have := as_strict hC q hb wb; omega
  · exact q
  · have := as_strict hC q ha wa; omega
theorem as_pos {K : Nat} {wt : Nat → Bool} {sn : Nat → Nat} (hC : as_C K wt sn) {a : Nat} (ha : a ≤ K) (wa : wt a = true) : 1 ≤ sn a := by
  rcases Nat.eq_zero_or_pos a with rfl | q
  · rw [hC.2.1] at wa; cases wa
  · have := as_strict hC q ha wa; omega
theorem as_find {K : Nat} {wt : Nat → Bool} {sn : Nat → Nat} (hC : as_C K wt sn) {a n : Nat} : ∀ {b : Nat}, a ≤ b → b ≤ K → sn a < n → n ≤ sn b → ∃ t, a < t ∧ t ≤ b ∧ wt t = true ∧ sn t = n := by
  intro b
  induction b with
  | zero => intro hab _ h1 h2
            have : a = 0 := by omega
            subst this; omega
  | succ b ih =>
    intro hab hb h1 h2
    by_cases h : a = b + 1
    · subst h; omega
    · have h3 := hC.2.2.2 b (by omega)
      by_cases h4 : n ≤ sn b
      · obtain ⟨t, q1, q2, q3⟩ := ih (by omega) (by omega) h1 h4
        exact ⟨t, q1, by omega, q3⟩
      · split at h3
        · next hw => exact ⟨b + 1, by omega, Nat.le_refl _, hw, by omega⟩
        · omega
/-- the one before is at most two messages behind -/
theorem as_lead {K : Nat} {wt : Nat → Bool} {sn : Nat → Nat} {k : Nat → Nat} (hC : as_C K wt sn) (h1 : ∀ i, i < 3 → k i ≤ K) (h7 : ∀ i, i < 3 → ∀ t, wt t = true → t < k i → t ≤ k (as_nx i)) {i : Nat} (hi : i < 3) : sn (k (as_nx i)) ≤ sn (k i) + 2 := by
  apply Nat.le_of_not_lt
  intro hlt
  have hj := as_nx_lt hi
  have hl := as_nx_lt hj
  have hab : k i ≤ k (as_nx i) := by
    apply Nat.le_of_not_lt
    intro q
    have := (as_mono hC (Nat.le_of_lt q) (h1 i hi)).1
    omega
  obtain ⟨t1, a1, b1, c1, d1⟩ := as_find hC (n := sn (k i) + 1) hab (h1 _ hj) (by omega) (by omega)
  obtain ⟨t2, a2, b2, c2, d2⟩ := as_find hC (n := sn (k i) + 2) hab (h1 _ hj) (by omega) (by omega)
  obtain ⟨t3, a3, b3, c3, d3⟩ := as_find hC (n := sn (k i) + 3) hab (h1 _ hj) (by omega) (by omega)
  have hK := h1 _ hj
  have o12 : t1 < t2 := by
    apply Nat.lt_of_not_le
    intro q
    have := (as_mono hC q (by omega)).1
    omega
  have o23 : t2 < t3 := by
    apply Nat.lt_of_not_le
    intro q
    have := (as_mono hC q (by omega)).1
    omega
  have e2 := h7 _ hj t2 c2 (by omega)
  have e1 := h7 _ hl t1 c1 (by omega)
  rw [as_nx3 hi] at e1
  omega
/-- what lies in the boxes and under way -/
def as_I (K : Nat) (wt : Nat → Bool) (sn : Nat → Nat) (pr : Nat → Nat → Int64) (k : Nat → Nat) (bn : Nat → Nat → Int32) (bw : Nat → Nat → Int64) (cnt : Nat) (rc nu : Nat → Int32) (wd : Nat → Int64) : Prop :=
  (∀ i, i < 3 → k i ≤ K) ∧
  (∀ i, i < 3 → ∀ t, wt t = true → k i ≤ t → t ≤ k (as_nx i) → (bn i (sn t % 8) = nI (sn t) ∧ bw i (sn t % 8) = pr (as_nx i) t) ∨ ∃ e, e < cnt ∧ rc e = nI i ∧ nu e = nI (sn t) ∧ wd e = pr (as_nx i) t) ∧
  (∀ i, i < 3 → ∀ p, p < 8 → ∀ n, 1 ≤ n → n ≤ sn K → bn i p = nI n → ∃ t, wt t = true ∧ sn t = n ∧ t ≤ k (as_nx i) ∧ bw i p = pr (as_nx i) t) ∧
  (∀ e, e < cnt → ∃ i t, i < 3 ∧ wt t = true ∧ rc e = nI i ∧ nu e = nI (sn t) ∧ wd e = pr (as_nx i) t ∧ k i ≤ t ∧ t ≤ k (as_nx i) ∧ bn i (sn t % 8) ≠ nI (sn t)) ∧
  (∀ e f, e < cnt → f < cnt → rc e = rc f → nu e = nu f → e = f) ∧
  (∀ i, i < 3 → ∀ t, wt t = true → t < k i → t ≤ k (as_nx i))
theorem as_start {K : Nat} {wt : Nat → Bool} {sn : Nat → Nat} {pr : Nat → Nat → Int64} {bn : Nat → Nat → Int32} {bw : Nat → Nat → Int64} {rc nu : Nat → Int32} {wd : Nat → Int64} (hC : as_C K wt sn) (hK : sn K < 2 ^ 31) (hz : ∀ i, i < 3 → ∀ p, p < 8 → bn i p = 0) : as_I K wt sn pr (fun _ => 0) bn bw 0 rc nu wd := by
  refine ⟨fun _ _ => Nat.zero_le _, fun i hi t ht _ h => ?_, fun i hi p hp n h1 h2 h3 => ?_, fun e h => by omega, fun e f h => by omega, fun i hi t _ h => absurd (show t < 0 from h) (by omega)⟩
  · have h : t ≤ 0 := h
    have : t = 0 := by omega
    subst this
    rw [hC.2.1] at ht; cases ht
  · rw [hz i hi p hp] at h3
    exact absurd h3.symm (nI_ne0 (by omega) (by omega))
theorem nI_inj' {a b : Nat} (ha : a < 2 ^ 31) (hb : b < 2 ^ 31) (h : nI a = nI b) : a = b := (nI_eq ha hb).mp h
/-- a message comes -/
theorem as_deliver {K : Nat} {wt : Nat → Bool} {sn : Nat → Nat} {pr : Nat → Nat → Int64} {k : Nat → Nat} {bn : Nat → Nat → Int32} {bw : Nat → Nat → Int64} {cnt : Nat} {rc nu : Nat → Int32} {wd : Nat → Int64} (hC : as_C K wt sn) (hK : sn K < 2 ^ 31) (hI : as_I K wt sn pr k bn bw cnt rc nu wd) {e : Nat} (he : e < cnt) :
    ∃ i n, i < 3 ∧ 1 ≤ n ∧ n ≤ sn K ∧ rc e = nI i ∧ nu e = nI n ∧ as_I K wt sn pr k (fun j => if j = i then upd (bn i) (n % 8) (nI n) else bn j) (fun j => if j = i then vp_updL (bw i) (n % 8) (wd e) else bw j) (cnt - 1) (upd rc e (rc (cnt - 1))) (upd nu e (nu (cnt - 1))) (vp_updL wd e (wd (cnt - 1))) := by
  obtain ⟨h1, h2, h3, h4, h5, h7⟩ := hI
  obtain ⟨i, t, hi, ht, hr, hn, hw, hk, hk2, hb⟩ := h4 e he
  have hj := as_nx_lt hi
  have htK : t ≤ K := Nat.le_trans hk2 (h1 _ hj)
  have hsK := (as_mono hC htK (Nat.le_refl _)).1
  have hp := as_pos hC htK ht
  have lead := as_lead hC h1 h7 hi
  have s1 := (as_mono hC hk htK).1
  have s2 := (as_mono hC hk2 (h1 _ hj)).1
  -- the entries behind the removal
  have ent : ∀ f, f < cnt - 1 → ∃ g, g < cnt ∧ g ≠ e ∧ upd rc e (rc (cnt - 1)) f = rc g ∧ upd nu e (nu (cnt - 1)) f = nu g ∧ vp_updL wd e (wd (cnt - 1)) f = wd g ∧ ((f = e ∧ g = cnt - 1) ∨ (f ≠ e ∧ g = f)) := by
    intro f hf
    by_cases q : f = e
    · subst q
      exact ⟨cnt - 1, by omega, by omega, by simp [upd], by simp [upd], by simp [vp_updL], Or.inl ⟨rfl, rfl⟩⟩
    · exact ⟨f, by omega, q, by simp [upd, q], by simp [upd, q], by simp [vp_updL, q], Or.inr ⟨q, rfl⟩⟩
  have tne : ∀ g t', g < cnt → g ≠ e → rc g = nI i → nu g = nI (sn t') → sn t' ≠ sn t := by
    intro g t' hg hge hrg hng heq
    exact hge (h5 g e hg he (hrg.trans hr.symm) (hng.trans (by rw [heq]; exact hn.symm)))
  refine ⟨i, sn t, hi, hp, hsK, hr, hn, h1, ?_, ?_, ?_, ?_, h7⟩
  · intro a ha u hu hu1 hu2
    by_cases q : a = i
    · subst q
      simp only [if_true]
      have huK : u ≤ K := Nat.le_trans hu2 (h1 _ hj)
      by_cases qt : u = t
      · subst qt
        exact Or.inl ⟨by simp [upd], by simp [vp_updL, hw]⟩
      · have v1 := (as_mono hC hu1 huK).1
        have v2 := (as_mono hC hu2 (h1 _ hj)).1
        have hne : sn u ≠ sn t := fun z => qt (as_uniq hC huK htK hu ht z)
        have hne8 : sn u % 8 ≠ sn t % 8 := by omega
        rcases h2 a ha u hu hu1 hu2 with ⟨z1, z2⟩ | ⟨g, z1, z2, z3, z4⟩
        · exact Or.inl ⟨by simp [upd, hne8, z1], by simp [vp_updL, hne8, z2]⟩
        · refine Or.inr ?_
          have hge : g ≠ e := by
            intro hge
            subst hge
            rw [hn] at z3
            exact hne (nI_inj' (by omega) (by have := (as_mono hC huK (Nat.le_refl _)).1; omega) z3).symm
          by_cases qg : g = cnt - 1
          · exact ⟨e, by omega, by simp [upd, ← qg, z2], by simp [upd, ← qg, z3], by simp [vp_updL, ← qg, z4]⟩
          · exact ⟨g, by omega, by simp [upd, hge, z2], by simp [upd, hge, z3], by simp [vp_updL, hge, z4]⟩
    · simp only [if_neg q]
      rcases h2 a ha u hu hu1 hu2 with z | ⟨g, z1, z2, z3, z4⟩
      · exact Or.inl z
      · refine Or.inr ?_
        have hge : g ≠ e := by
          intro hge
          subst hge
          rw [hr] at z2
          exact q (nI_inj' (by omega) (by omega) z2).symm
        by_cases qg : g = cnt - 1
        · exact ⟨e, by omega, by simp [upd, ← qg, z2], by simp [upd, ← qg, z3], by simp [vp_updL, ← qg, z4]⟩
        · exact ⟨g, by omega, by simp [upd, hge, z2], by simp [upd, hge, z3], by simp [vp_updL, hge, z4]⟩
  · intro a ha p hp8 n n1 n2 hbn
    by_cases q : a = i
    · subst q
      simp only [if_true] at hbn ⊢
      by_cases qp : p = sn t % 8
      · subst qp
        have hbn : nI (sn t) = nI n := by simpa [upd] using hbn
        have := nI_inj' (by omega) (by omega) hbn
        exact ⟨t, ht, this, hk2, by simp [vp_updL, hw]⟩
      · have hbn : bn a p = nI n := by simpa [upd, qp] using hbn
        obtain ⟨u, u1, u2, u3, u4⟩ := h3 a ha p hp8 n n1 n2 hbn
        exact ⟨u, u1, u2, u3, by simp [vp_updL, qp, u4]⟩
    · simp only [if_neg q] at hbn ⊢
      exact h3 a ha p hp8 n n1 n2 hbn
  · intro f hf
    obtain ⟨g, g1, g2, g3, g4, g5, -⟩ := ent f hf
    obtain ⟨a, u, ha, hu, r1, r2, r3, r4, r5, r6⟩ := h4 g g1
    refine ⟨a, u, ha, hu, g3.trans r1, g4.trans r2, g5.trans r3, r4, r5, ?_⟩
    by_cases q : a = i
    · subst q
      simp only [if_true]
      have huK : u ≤ K := Nat.le_trans r5 (h1 _ hj)
      have hne := tne g u g1 g2 r1 r2
      have v1 := (as_mono hC r4 huK).1
      have v2 := (as_mono hC r5 (h1 _ hj)).1
      have hne8 : sn u % 8 ≠ sn t % 8 := by omega
      simpa [upd, hne8] using r6
    · simp only [if_neg q]
      exact r6
  · intro f f' hf hf' hrc hnu
    obtain ⟨g, g1, g2, g3, g4, g5, g6⟩ := ent f hf
    obtain ⟨g', g1', g2', g3', g4', g5', g6'⟩ := ent f' hf'
    have := h5 g g' g1 g1' (g3.symm.trans (hrc.trans g3')) (g4.symm.trans (hnu.trans g4'))
    rcases g6 with ⟨a, b⟩ | ⟨a, b⟩ <;> rcases g6' with ⟨a', b'⟩ | ⟨a', b'⟩ <;> omega
/-- one goes on -/
theorem as_step {K : Nat} {wt : Nat → Bool} {sn : Nat → Nat} {pr : Nat → Nat → Int64} {k : Nat → Nat} {bn : Nat → Nat → Int32} {bw : Nat → Nat → Int64} {cnt : Nat} {rc nu : Nat → Int32} {wd : Nat → Int64} (hC : as_C K wt sn) (hK : sn K < 2 ^ 31) (hI : as_I K wt sn pr k bn bw cnt rc nu wd) {i : Nat} (hi : i < 3) (hki : k i < K) (hgo : wt (k i) = true → bn i (sn (k i) % 8) = nI (sn (k i))) :
    (wt (k i) = true → bw i (sn (k i) % 8) = pr (as_nx i) (k i)) ∧
    (wt (k i + 1) = true → as_I K wt sn pr (fun j => if j = i then k i + 1 else k j) bn bw (cnt + 1) (upd rc cnt (nI (as_pv i))) (upd nu cnt (nI (sn (k i + 1)))) (vp_updL wd cnt (pr i (k i + 1)))) ∧
    (wt (k i + 1) = false → as_I K wt sn pr (fun j => if j = i then k i + 1 else k j) bn bw cnt rc nu wd) := by
  obtain ⟨h1, h2, h3, h4, h5, h7⟩ := hI
  have hj := as_nx_lt hi
  have hv := as_pv_lt hi
  have hvn := as_nxpv hi
  have hvi : as_pv i ≠ i := by
    intro q
    rw [q] at hvn
    exact as_nx_ne hi hvn
  have snk := (as_mono hC (show k i ≤ K by omega) (Nat.le_refl _)).1
  have snk1 := (as_mono hC (show k i + 1 ≤ K by omega) (Nat.le_refl _)).1
  have have1 : wt (k i) = true → k i ≤ k (as_nx i) ∧ bw i (sn (k i) % 8) = pr (as_nx i) (k i) := by
    intro hw
    obtain ⟨t, t1, t2, t3, t4⟩ := h3 i hi _ (Nat.mod_lt _ (by omega)) _ (as_pos hC (by omega) hw) snk (hgo hw)
    have := as_uniq hC (Nat.le_trans t3 (h1 _ hj)) (by omega) t1 hw t2
    subst this
    exact ⟨t3, t4⟩
  have h1' : ∀ a, a < 3 → (fun j => if j = i then k i + 1 else k j) a ≤ K := by
    intro a ha
    show (if a = i then k i + 1 else k a) ≤ K
    split
    · omega
    · exact h1 a ha
  have h7' : ∀ a, a < 3 → ∀ t, wt t = true → t < (fun j => if j = i then k i + 1 else k j) a → t ≤ (fun j => if j = i then k i + 1 else k j) (as_nx a) := by
    intro a ha t ht hlt
    have hlt : t < (if a = i then k i + 1 else k a) := hlt
    show t ≤ (if as_nx a = i then k i + 1 else k (as_nx a))
    by_cases q : a = i
    · subst q
      rw [if_pos rfl] at hlt
      rw [if_neg (as_nx_ne ha)]
      by_cases qt : t = k a
      · subst qt; exact (have1 ht).1
      · exact h7 a ha t ht (by omega)
    · rw [if_neg q] at hlt
      have := h7 a ha t ht hlt
      split
      · next z => rw [z] at this; omega
      · exact this
  have keepE : ∀ e, e < cnt → ∃ a t, a < 3 ∧ wt t = true ∧ rc e = nI a ∧ nu e = nI (sn t) ∧ wd e = pr (as_nx a) t ∧ (fun j => if j = i then k i + 1 else k j) a ≤ t ∧ t ≤ (fun j => if j = i then k i + 1 else k j) (as_nx a) ∧ bn a (sn t % 8) ≠ nI (sn t) := by
    intro e he
    obtain ⟨a, t, ha, ht, r1, r2, r3, r4, r5, r6⟩ := h4 e he
    refine ⟨a, t, ha, ht, r1, r2, r3, ?_, ?_, r6⟩
    · show (if a = i then k i + 1 else k a) ≤ t
      by_cases q : a = i
      · subst q
        rw [if_pos rfl]
        rcases Nat.eq_or_lt_of_le r4 with z | z
        · exact absurd (by rw [← z] at ht ⊢; exact hgo ht) r6
        · exact z
      · rw [if_neg q]; exact r4
    · show t ≤ (if as_nx a = i then k i + 1 else k (as_nx a))
      split
      · next z => rw [z] at r5; omega
      · exact r5
  refine ⟨fun hw => (have1 hw).2, fun hw => ⟨h1', ?_, ?_, ?_, ?_, h7'⟩, fun hw => ⟨h1', ?_, ?_, keepE, h5, h7'⟩⟩
  · intro a ha t ht r1 r2
    have r1 : (if a = i then k i + 1 else k a) ≤ t := r1
    have r2 : t ≤ (if as_nx a = i then k i + 1 else k (as_nx a)) := r2
    have lift : (∃ e, e < cnt ∧ rc e = nI a ∧ nu e = nI (sn t) ∧ wd e = pr (as_nx a) t) → ∃ e, e < cnt + 1 ∧ upd rc cnt (nI (as_pv i)) e = nI a ∧ upd nu cnt (nI (sn (k i + 1))) e = nI (sn t) ∧ vp_updL wd cnt (pr i (k i + 1)) e = pr (as_nx a) t := by
      rintro ⟨e, z1, z2, z3, z4⟩
      have hne : e ≠ cnt := by omega
      exact ⟨e, by omega, by simp [upd, hne, z2], by simp [upd, hne, z3], by simp [vp_updL, hne, z4]⟩
    by_cases q : as_nx a = i
    · rw [if_pos q] at r2
      have hai : a = as_pv i := by rw [← q, as_pvnx ha]
      have hani : a ≠ i := by rw [hai]; exact hvi
      rw [if_neg hani] at r1
      by_cases qt : t = k i + 1
      · subst qt
        refine Or.inr ⟨cnt, by omega, ?_, ?_, ?_⟩
        · simp [upd, hai]
        · simp [upd]
        · simp [vp_updL, q]
      · rcases h2 a ha t ht r1 (by rw [q]; omega) with z | z
        · exact Or.inl z
        · exact Or.inr (lift z)
    · rw [if_neg q] at r2
      have r1' : k a ≤ t := by
        by_cases qa : a = i
        · subst qa; rw [if_pos rfl] at r1; omega
        · rw [if_neg qa] at r1; exact r1
      rcases h2 a ha t ht r1' r2 with z | z
      · exact Or.inl z
      · exact Or.inr (lift z)
  · intro a ha p hp n n1 n2 hb
    obtain ⟨t, t1, t2, t3, t4⟩ := h3 a ha p hp n n1 n2 hb
    refine ⟨t, t1, t2, ?_, t4⟩
    show t ≤ (if as_nx a = i then k i + 1 else k (as_nx a))
    split
    · next z => rw [z] at t3; omega
    · exact t3
  · intro e he
    by_cases q : e = cnt
    · subst q
      refine ⟨as_pv i, k i + 1, hv, hw, by simp [upd], by simp [upd], by simp [vp_updL, hvn], ?_, ?_, ?_⟩
      · show (if as_pv i = i then k i + 1 else k (as_pv i)) ≤ k i + 1
        rw [if_neg hvi]
        apply Nat.le_of_not_lt
        intro z
        have := h7 (as_pv i) hv (k i + 1) hw z
        rw [hvn] at this
        omega
      · show k i + 1 ≤ (if as_nx (as_pv i) = i then k i + 1 else k (as_nx (as_pv i)))
        rw [if_pos hvn]
        exact Nat.le_refl _
      · intro hb
        obtain ⟨t, t1, t2, t3, t4⟩ := h3 (as_pv i) hv _ (Nat.mod_lt _ (by omega)) _ (as_pos hC (by omega) hw) snk1 hb
        rw [hvn] at t3
        have := as_uniq hC (by omega) (by omega) t1 hw t2
        omega
    · obtain ⟨a, t, ha, ht, r1, r2, r3, r4, r5, r6⟩ := keepE e (by omega)
      exact ⟨a, t, ha, ht, by simp [upd, q, r1], by simp [upd, q, r2], by simp [vp_updL, q, r3], r4, r5, r6⟩
  · intro e f he hf hrc hnu
    have fresh : ∀ g, g < cnt → rc g = nI (as_pv i) → nu g = nI (sn (k i + 1)) → False := by
      intro g hg z1 z2
      obtain ⟨a, t, ha, ht, r1, r2, r3, r4, r5, r6⟩ := h4 g hg
      have ea := nI_inj' (by omega) (by omega) (r1.symm.trans z1)
      subst ea
      rw [hvn] at r5
      have tK : t ≤ K := by omega
      have := (as_mono hC tK (Nat.le_refl _)).1
      have et := nI_inj' (by omega) (by omega) (r2.symm.trans z2)
      have := as_uniq hC tK (by omega) ht hw et
      omega
    by_cases qe : e = cnt <;> by_cases qf : f = cnt
    · omega
    · subst qe
      exact (fresh f (by omega) (by simpa [upd, qf] using hrc.symm) (by simpa [upd, qf] using hnu.symm)).elim
    · subst qf
      exact (fresh e (by omega) (by simpa [upd, qe] using hrc) (by simpa [upd, qe] using hnu)).elim
    · exact h5 e f (by omega) (by omega) (by simpa [upd, qe, qf] using hrc) (by simpa [upd, qe, qf] using hnu)
  · intro a ha t ht r1 r2
    have r1 : (if a = i then k i + 1 else k a) ≤ t := r1
    have r2 : t ≤ (if as_nx a = i then k i + 1 else k (as_nx a)) := r2
    refine h2 a ha t ht ?_ ?_
    · by_cases qa : a = i
      · subst qa; rw [if_pos rfl] at r1; omega
      · rw [if_neg qa] at r1; exact r1
    · by_cases q : as_nx a = i
      · rw [if_pos q] at r2
        rcases Nat.eq_or_lt_of_le r2 with z | z
        · rw [z, hw] at ht; cases ht
        · rw [q]; omega
      · rw [if_neg q] at r2; exact r2
  · intro a ha p hp n n1 n2 hb
    obtain ⟨t, t1, t2, t3, t4⟩ := h3 a ha p hp n n1 n2 hb
    refine ⟨t, t1, t2, ?_, t4⟩
    show t ≤ (if as_nx a = i then k i + 1 else k (as_nx a))
    split
    · next z => rw [z] at t3; omega
    · exact t3
/-- nothing is under way and none can go on: all are through -/
theorem as_end {K : Nat} {wt : Nat → Bool} {sn : Nat → Nat} {pr : Nat → Nat → Int64} {k : Nat → Nat} {bn : Nat → Nat → Int32} {bw : Nat → Nat → Int64} {rc nu : Nat → Int32} {wd : Nat → Int64} (hI : as_I K wt sn pr k bn bw 0 rc nu wd) (hno : ∀ i, i < 3 → k i < K → wt (k i) = true ∧ bn i (sn (k i) % 8) ≠ nI (sn (k i))) : k 0 = K ∧ k 1 = K ∧ k 2 = K := by
  obtain ⟨h1, h2, -⟩ := hI
  have go : ∀ i, i < 3 → (∀ j, j < 3 → k i ≤ k j) → k i = K := by
    intro i hi hmin
    rcases Nat.eq_or_lt_of_le (h1 i hi) with z | z
    · exact z
    · obtain ⟨a, b⟩ := hno i hi z
      rcases h2 i hi (k i) a (Nat.le_refl _) (hmin _ (as_nx_lt hi)) with ⟨c, -⟩ | ⟨e, he, -⟩
      · exact absurd c b
      · omega
  have a0 := h1 0 (by omega)
  have a1 := h1 1 (by omega)
  have a2 := h1 2 (by omega)
  rcases Nat.le_total (k 0) (k 1) with q1 | q1 <;> rcases Nat.le_total (k 0) (k 2) with q2 | q2 <;> rcases Nat.le_total (k 1) (k 2) with q3 | q3
  all_goals first
    | (have := go 0 (by omega) (fun j hj => by rcases (show j = 0 ∨ j = 1 ∨ j = 2 by omega) with rfl | rfl | rfl <;> omega); omega)
    | (have := go 1 (by omega) (fun j hj => by rcases (show j = 0 ∨ j = 1 ∨ j = 2 by omega) with rfl | rfl | rfl <;> omega); omega)
    | (have := go 2 (by omega) (fun j hj => by rcases (show j = 0 ∨ j = 1 ∨ j = 2 by omega) with rfl | rfl | rfl <;> omega); omega)
theorem as_pigeon : ∀ (n m : Nat) (f : Nat → Nat), (∀ e, e < m → f e < n) → (∀ e g, e < m → g < m → f e = f g → e = g) → m ≤ n
  | 0, m, f, h1, _ => by
    apply Nat.le_of_not_lt
    intro q
    exact absurd (h1 0 q) (by omega)
  | n + 1, m, f, h1, h2 => by
    by_cases q : ∃ e, e < m ∧ f e = n
    · obtain ⟨e0, a, b⟩ := q
      have := as_pigeon n (m - 1) (fun e => if e < e0 then f e else f (e + 1)) (fun e he => by
          show (if e < e0 then f e else f (e + 1)) < n
          split
          · have c1 := h1 e (by omega)
            have c2 : f e ≠ n := fun z => by have := h2 e e0 (by omega) a (z.trans b.symm); omega
            omega
          · have c1 := h1 (e + 1) (by omega)
            have c2 : f (e + 1) ≠ n := fun z => by have := h2 (e + 1) e0 (by omega) a (z.trans b.symm); omega
            omega) (fun e g he hg heq => by
          have heq : (if e < e0 then f e else f (e + 1)) = (if g < e0 then f g else f (g + 1)) := heq
          split at heq <;> split at heq
          · exact h2 e g (by omega) (by omega) heq
          · have := h2 e (g + 1) (by omega) (by omega) heq; omega
          · have := h2 (e + 1) g (by omega) (by omega) heq; omega
          · have := h2 (e + 1) (g + 1) (by omega) (by omega) heq; omega)
      omega
    · have := as_pigeon n m f (fun e he => by
        have c1 := h1 e he
        have c2 : f e ≠ n := fun z => q ⟨e, he, z⟩
        omega) h2
      omega
/-- few are under way -/
theorem as_few {K : Nat} {wt : Nat → Bool} {sn : Nat → Nat} {pr : Nat → Nat → Int64} {k : Nat → Nat} {bn : Nat → Nat → Int32} {bw : Nat → Nat → Int64} {cnt : Nat} {rc nu : Nat → Int32} {wd : Nat → Int64} (hC : as_C K wt sn) (hI : as_I K wt sn pr k bn bw cnt rc nu wd) : cnt ≤ 9 := by
  obtain ⟨h1, h2, h3, h4, h5, h7⟩ := hI
  have hx : ∀ e, ∃ c : Nat, e < cnt → c < 9 ∧ ∃ i d, c = i * 3 + d ∧ d < 3 ∧ i < 3 ∧ rc e = nI i ∧ nu e = nI (sn (k i) + d) := by
    intro e
    by_cases he : e < cnt
    · obtain ⟨i, t, hi, ht, r1, r2, r3, r4, r5, r6⟩ := h4 e he
      have lead := as_lead hC h1 h7 hi
      have hj := as_nx_lt hi
      have s1 := (as_mono hC r4 (Nat.le_trans r5 (h1 _ hj))).1
      have s2 := (as_mono hC r5 (h1 _ hj)).1
      refine ⟨i * 3 + (sn t - sn (k i)), fun _ => ⟨by omega, i, sn t - sn (k i), rfl, by omega, hi, r1, ?_⟩⟩
      rw [r2, show sn (k i) + (sn t - sn (k i)) = sn t by omega]
    · exact ⟨0, fun h => absurd h he⟩
  obtain ⟨f, hf⟩ := Classical.axiomOfChoice hx
  refine as_pigeon 9 cnt f (fun e he => (hf e he).1) (fun e g he hg heq => ?_)
  obtain ⟨-, i, d, a1, a2, a3, a4, a5⟩ := hf e he
  obtain ⟨-, i', d', b1, b2, b3, b4, b5⟩ := hf g hg
  have e1 : i = i' := by omega
  have e2 : d = d' := by omega
  subst e1
  subst e2
  exact h5 e g he hg (a4.trans b4.symm) (a5.trans b5.symm)
