/-! worlds by place: a callee's cells are cut out of a world and laid back in their places; what is new stands at the end -/
def wb_put : va_W → List Nat → va_W → va_W
  | ws, [], w => ws ++ w
  | ws, _ :: _, [] => ws
  | ws, i :: is, q :: w => wb_put (ws.set i q) is w
theorem wb_put_at : ∀ (is : List Nat) (ws w : va_W), (∀ i ∈ is, i < ws.length) → is.length ≤ w.length → ∀ (k : Nat) (q : Nat × va_E), (wb_put ws is w)[k]? = some q → (k ∉ is ∧ ws[k]? = some q) ∨ ∃ j, w[j]? = some q ∧ (is[j]? = some k ∨ (is.length ≤ j ∧ k = ws.length + (j - is.length)))
  | [], ws, w, _, _, k, q, h => by
    have h : (ws ++ w)[k]? = some q := by cases w <;> exact h
    by_cases hl : k < ws.length
    · rw [List.getElem?_append_left hl] at h
      exact Or.inl ⟨by simp, h⟩
    · rw [List.getElem?_append_right (by omega)] at h
      exact Or.inr ⟨k - ws.length, h, Or.inr ⟨Nat.zero_le _, by simp; omega⟩⟩
  | i :: is, ws, [], _, hl, _, _, _ => by simp at hl
  | i :: is, ws, c :: w, hi, hl, k, q, h => by
    have h : (wb_put (ws.set i c) is w)[k]? = some q := h
    have hi0 : i < ws.length := hi i List.mem_cons_self
    rcases wb_put_at is (ws.set i c) w (fun j hj => by rw [List.length_set]; exact hi j (List.mem_cons_of_mem _ hj)) (by simpa using hl) k q h with ⟨h1, h2⟩ | ⟨j, h1, h2⟩
    · by_cases hk : k = i
      · subst hk
        rw [List.getElem?_set_self hi0] at h2
        exact Or.inr ⟨0, h2, Or.inl rfl⟩
      · rw [List.getElem?_set_ne (Ne.symm hk)] at h2
        exact Or.inl ⟨fun hm => (List.mem_cons.mp hm).elim hk h1, h2⟩
    · refine Or.inr ⟨j + 1, h1, ?_⟩
      rcases h2 with h2 | ⟨h2, h3⟩
      · exact Or.inl h2
      · rw [List.length_set] at h3
        exact Or.inr ⟨by simp; omega, by simp; omega⟩
theorem wb_maps {ws wc : va_W} {is : List Nat} (hC : is.map (fun i => ws[i]?) = wc.map some) : (∀ i ∈ is, ∃ (k : Nat) (q : Nat × va_E), ws[i]? = some q ∧ wc[k]? = some q) ∧ (∀ (k : Nat) (q : Nat × va_E), wc[k]? = some q → ∃ i, is[k]? = some i ∧ ws[i]? = some q) ∧ is.length = wc.length := by
  refine ⟨fun i hi => ?_, fun k q hq => ?_, ?_⟩
  · obtain ⟨k, hk⟩ := List.getElem?_of_mem hi
    have h1 : (is.map (fun i => ws[i]?))[k]? = some (ws[i]?) := by rw [List.getElem?_map, hk]; rfl
    rw [hC, List.getElem?_map] at h1
    cases hw : wc[k]? with
    | none => rw [hw] at h1; cases h1
    | some q => rw [hw] at h1; exact ⟨k, q, (Option.some.inj h1).symm, hw⟩
  · have h1 : (is.map (fun i => ws[i]?))[k]? = some (some q) := by rw [hC, List.getElem?_map, hq]; rfl
    rw [List.getElem?_map] at h1
    cases hi : is[k]? with
    | none => rw [hi] at h1; cases h1
    | some i => rw [hi] at h1; exact ⟨i, rfl, Option.some.inj h1⟩
  · have h1 := congrArg List.length hC
    simpa using h1
theorem wb_join {A0 : Nat → Prop} {D : va_G} {cl : List vw_C} {ws wc w1 : va_W} {H H1 : Heap} (hP : va_P D cl ws H) (hD : va_D A0 ws) (is : List Nat) (hC : is.map (fun i => ws[i]?) = wc.map some) (hlen : wc.length ≤ w1.length)
    (hk : ∀ q : Nat, q < H.size → ¬ va_A wc H.size q → H1[q]? = H[q]?) (hF : ∀ q, va_A wc H.size q → A0 q) (hP1 : va_P D cl w1 H1) (hD1 : va_D (va_A wc H.size) w1) : va_P D cl (wb_put ws is w1) H1 ∧ va_D A0 (wb_put ws is w1) := by
  obtain ⟨m1, m2, m3⟩ := wb_maps hC
  have hin : ∀ i ∈ is, i < ws.length := fun i hi => by
    obtain ⟨k, q, h, -⟩ := m1 i hi
    exact (List.getElem?_eq_some_iff.mp h).1
  have at' := wb_put_at is ws w1 hin (by rw [m3]; exact hlen)
  have apart : ∀ (k : Nat) (q : Nat × va_E), k ∉ is → ws[k]? = some q → q.1 < H.size ∧ ¬ va_A wc H.size q.1 := by
    intro k q hn hq
    have hl := (hP k q hq).lt
    refine ⟨hl, fun h => ?_⟩
    rcases h with ⟨k2, e, h⟩ | h
    · obtain ⟨j, h3, h4⟩ := m2 k2 (q.1, e) h
      have hij := hD.1 k j q (q.1, e) hq h4 rfl
      subst hij
      exact hn (List.mem_of_getElem? h3)
    · omega
  refine ⟨fun k q hq => ?_, fun a b x y ha hb hxy => ?_, fun k q hq => ?_⟩
  · rcases at' k q hq with ⟨h1, h2⟩ | ⟨j, h1, -⟩
    · obtain ⟨g1, g2⟩ := apart k q h1 h2
      exact (hP k q h2).kept (hk q.1 g1 g2)
    · exact hP1 j q h1
  · rcases at' a x ha with ⟨h1, h2⟩ | ⟨i, h1, h2⟩ <;> rcases at' b y hb with ⟨h3, h4⟩ | ⟨j, h3, h4⟩
    · exact hD.1 a b x y h2 h4 hxy
    · exact absurd (by rw [hxy]; exact hD1.2 j y h3) (apart a x h1 h2).2
    · exact absurd (by rw [← hxy]; exact hD1.2 i x h1) (apart b y h3 h4).2
    · have hij := hD1.1 i j x y h1 h3 hxy
      subst hij
      rcases h2 with h2 | ⟨h2, h5⟩ <;> rcases h4 with h4 | ⟨h4, h6⟩
      · exact Option.some.inj (h2.symm.trans h4)
      · have := (List.getElem?_eq_some_iff.mp h2).1; omega
      · have := (List.getElem?_eq_some_iff.mp h4).1; omega
      · omega
  · rcases at' k q hq with ⟨h1, h2⟩ | ⟨j, h1, -⟩
    · exact hD.2 k q h2
    · exact hF q.1 (hD1.2 j q h1)
