/-! a contract over a smaller world serves a larger one -/
theorem Ct.frame {l : Launch} {G : Gt} {y : MethodName} {bc : ByteArray} {mL : Nat} {ret : Option FieldType} {rm : Room} {av : List Value} {wc w : va_W} {mc ms : Nat} {post : Option Value → va_W → Prop} (hM : Ct l G y bc mL ret rm av wc mc ms post) (is : List Nat) (hn : va_nd is = true) (hC : is.map (fun i => w[i]?) = wc.map some) (hlen : ∀ v w1, post v w1 → wc.length ≤ w1.length) :
    Ct l G y bc mL ret rm av w mc ms (fun v w' => ∃ w1, post v w1 ∧ w' = wb_put w is w1) := by
  intro sz p e h1 h2 h3 s m args below h4 h5 hP hK
  obtain ⟨q0, q1, qP, qK, qD⟩ := hP
  subst q1
  obtain ⟨m1, m2, m3⟩ := wb_maps hC
  have sub : ∀ q, va_A wc s.heap.size q → va_A w s.heap.size q := by
    intro q h
    rcases h with ⟨k, e', h⟩ | h
    · obtain ⟨i, -, hi⟩ := m2 k _ h
      exact Or.inl ⟨i, e', hi⟩
    · exact Or.inr h
  have hPc : Pcc G av wc s.heap.size args s := ⟨q0, rfl, fun k q hq => by
    obtain ⟨i, -, hi⟩ := m2 k q hq
    exact qP i q hi, qK, qD.sub is hn hC⟩
  obtain ⟨n, o, a1, a2, a3, ⟨⟨v, w1, hv, hp, hP1, hD1⟩, hz, hk⟩, L, hF, hL⟩ := hM s.heap.size p e h1 h2 h3 s m args below h4 h5 hPc trivial
  have hj := wb_join qP (qD.self (sz := s.heap.size)) is hC (hlen _ _ hp) hk sub hP1 hD1
  exact ⟨n, o, a1, a2, a3, ⟨⟨v, wb_put w is w1, hv, ⟨w1, hp, rfl⟩, hj.1, hj.2⟩, hz, fun q hq1 hq2 => hk q hq1 (fun z => hq2 (sub q z))⟩, L, hF, fun q hq => sub _ (hL q hq)⟩
theorem Ct.weaken {l : Launch} {G : Gt} {y : MethodName} {bc : ByteArray} {mL : Nat} {ret : Option FieldType} {rm : Room} {av : List Value} {w : va_W} {mc ms : Nat} {post post' : Option Value → va_W → Prop} (hM : Ct l G y bc mL ret rm av w mc ms post) (h : ∀ v w', post v w' → post' v w') : Ct l G y bc mL ret rm av w mc ms post' := by
  intro sz p e h1 h2 h3 s m args below h4 h5 hP hK
  obtain ⟨n, o, a1, a2, a3, ⟨⟨v, w1, hv, hp, hP1, hD1⟩, hz⟩, r⟩ := hM sz p e h1 h2 h3 s m args below h4 h5 hP trivial
  exact ⟨n, o, a1, a2, a3, ⟨⟨v, w1, hv, h _ _ hp, hP1, hD1⟩, hz⟩, r⟩
/-- the order of a world's cells doesn't matter -/
theorem Wd.perm {G : Gt} {A : Nat → Prop} {H0 H : Heap} {ws ws' : va_W} {locs : List Loc} (hW : Wd G A H0 ws H locs) (hp : ws'.Perm ws) : Wd G A H0 ws' H locs := by
  have hm : ∀ q, q ∈ ws' → q ∈ ws := fun q h => hp.mem_iff.mp h
  have nd : ws.Pairwise (fun x y => x.1 ≠ y.1) := List.pairwise_iff_getElem.mpr (fun i j hi hj hij heq => by
    have := hW.2.1.1 i j _ _ (List.getElem?_eq_getElem hi) (List.getElem?_eq_getElem hj) heq
    omega)
  have nd' : ws'.Pairwise (fun x y => x.1 ≠ y.1) := (hp.pairwise_iff (fun h => Ne.symm h)).mpr nd
  rw [List.pairwise_iff_getElem] at nd'
  refine ⟨fun k q hq => ?_, ⟨fun i j x y hi hj hxy => ?_, fun k q hq => ?_⟩, hW.2.2⟩
  · obtain ⟨i, hi⟩ := List.getElem?_of_mem (hm q (List.mem_of_getElem? hq))
    exact hW.1 i q hi
  · obtain ⟨li, ei⟩ := List.getElem?_eq_some_iff.mp hi
    obtain ⟨lj, ej⟩ := List.getElem?_eq_some_iff.mp hj
    rcases Nat.lt_trichotomy i j with q | q | q
    · exact absurd (by rw [ei, ej]; exact hxy) (nd' i j li lj q)
    · exact q
    · exact absurd (by rw [ei, ej]; exact hxy.symm) (nd' j i lj li q)
  · obtain ⟨i, hi⟩ := List.getElem?_of_mem (hm q (List.mem_of_getElem? hq))
    exact hW.2.1.2 i q hi
