/-! the words of a call -/
theorem good_V {own C : String} {idx mL : Nat} {y : MethodName} {bc : ByteArray} {ret : Option FieldType} (h1 : Cond.methodLink own idx y ∈ wsA) (h2 : Cond.instanceMethod y ∈ wsA) (h3 : Cond.selects C y y ∈ wsA) (h4 : Cond.initialized C ∈ wsA) (h5 : Cond.code y bc mL ret ∈ wsA) : GoodIn wsA (wsV own idx C y (Cond.code y bc mL ret :: wsA)) := by
  intro w hw
  have hm : w ∈ wsA := by
    unfold wsV at hw
    rcases List.mem_append.mp hw with h | h
    · simp only [List.mem_cons, List.not_mem_nil, or_false] at h
      rcases h with rfl | rfl | rfl | rfl
      · exact h1
      · exact h2
      · exact h3
      · exact h4
    · rcases List.mem_cons.mp h with rfl | h
      · exact h5
      · exact h
  exact ⟨hm, good_A w hm⟩
theorem good_S {own : String} {idx mL : Nat} {y : MethodName} {bc : ByteArray} {ret : Option FieldType} (h1 : Cond.methodLink own idx y ∈ wsA) (h2 : Cond.static y ∈ wsA) (h4 : Cond.initialized y.cls ∈ wsA) (h5 : Cond.code y bc mL ret ∈ wsA) : GoodIn wsA (va_wsS own idx y (Cond.code y bc mL ret :: wsA)) := by
  intro w hw
  have hm : w ∈ wsA := by
    unfold va_wsS at hw
    rcases List.mem_append.mp hw with h | h
    · simp only [List.mem_cons, List.not_mem_nil, or_false] at h
      rcases h with rfl | rfl | rfl
      · exact h1
      · exact h2
      · exact h4
    · rcases List.mem_cons.mp h with rfl | h
      · exact h5
      · exact h
  exact ⟨hm, good_A w hm⟩
theorem good_C {mL : Nat} {y : MethodName} {bc : ByteArray} {ret : Option FieldType} (h5 : Cond.code y bc mL ret ∈ wsA) : GoodIn wsA (Cond.code y bc mL ret :: wsA) := by
  intro w hw
  have hm : w ∈ wsA := by
    rcases List.mem_cons.mp hw with rfl | h
    · exact h5
    · exact h
  exact ⟨hm, good_A w hm⟩
