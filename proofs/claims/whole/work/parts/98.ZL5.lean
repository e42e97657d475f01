/-- from the entry, for every script of at most 2048 ints, the law comes to its end with true -/
theorem whole_start {p : Program} {e : Env} {s : State} {m : MethodId} {below : List Frame} {meth : Method} {c : Code} (l : Launch) (hfl : l.flags = flags0) {b L : Nat} {xs : Nat → Int32} (hL : L ≤ 2048) (C0 : lw_At p s m meth c b L xs) : W p l e room_1 s m #[Value.ref b] below meth c s.heap [] 0 0 (lw_Z below #[Value.ref b] s) (entryFrame m ([Value.ref b] : List Value).toArray 7) := by
  obtain ⟨hx, hb, hr, hml, hown, htsT, hX, hbl, hnl, hgv⟩ := C0
  have hts : ∀ w ∈ wsA, w.before #[Value.ref b] s = true := fun w hw => htsT w (inT w hw)
  have hLw : ∀ w ∈ lawW, w.before #[Value.ref b] s = true := fun w hw => htsT w (lawW_tbl w hw)
  have hLw2 : ∀ w ∈ lawW ++ wsA, w.before #[Value.ref b] s = true := fun w hw => (List.mem_append.mp hw).elim (hLw w) (hts w)
  obtain ⟨G, hK⟩ := start_K htsT
  obtain ⟨V, hE⟩ := start_E htsT hgv
  have hA : ∀ q : Nat, s.heap.size ≤ q → (fun q : Nat => s.heap.size ≤ q) q := fun _ h => h
  have hbA : ¬ (fun q : Nat => s.heap.size ≤ q) b := fun h => absurd hbl (Nat.not_lt.mpr h)
  have hW : Wd G (fun q : Nat => s.heap.size ≤ q) s.heap [] s.heap [] := ⟨fun k q h => by simp at h, ⟨fun i j x y h => by simp at h, fun k q h => by simp at h⟩, va_S.rf⟩
  rw [lg_entry_eq]
  have hl : lv_has _ 7 [(0, .ref b)] := lv_entry (n := 7) [.ref b] (Nat.le_of_ble_eq_true rfl)
  exact law_all l hfl G V _ hx hb hr hml hown hnl hts hLw hLw2 hX hbl hbA hK hE hA hA hL hl hW

