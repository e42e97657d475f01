/-! words alike -/
theorem sub4 (x y : Int32) : (x - y = 4) = (x = y + 4) := by
  apply propext
  constructor
  · intro h
    rw [← h, Int32.add_comm, Int32.sub_add_cancel]
  · intro h
    rw [h, Int32.add_comm]
    exact Int32.add_sub_cancel _ _
theorem chS_all : chS 0 0 = 115 ∧ chS 0 1 = 111 ∧ chS 0 2 = 114 ∧ chS 0 3 = 116 ∧ chS 1 0 = 115 ∧ chS 1 1 = 117 ∧ chS 1 2 = 109 ∧ chS 1 3 = 115 ∧ chS 2 0 = 111 ∧ chS 2 1 = 112 ∧ chS 2 2 = 101 ∧ chS 2 3 = 110 := by decide +kernel
theorem wd_sort (f : Nat → Int32) (b e : Nat) : o_Tokens_isWord0_r b e f = o_Mo_isWord_r 1 b e f 115 111 114 116 := by
  obtain ⟨a0, a1, a2, a3, -⟩ := chS_all
  unfold o_Tokens_isWord0_r o_Mo_isWord_r
  rw [a0, a1, a2, a3, if_pos rfl, Int32.add_zero]
  simp only [sub4]
theorem wd_sums (f : Nat → Int32) (b e : Nat) : o_Tokens_isWord1_r b e f = o_Mo_isWord_r 1 b e f 115 117 109 115 := by
  obtain ⟨-, -, -, -, a0, a1, a2, a3, -⟩ := chS_all
  unfold o_Tokens_isWord1_r o_Mo_isWord_r
  rw [a0, a1, a2, a3, if_pos rfl, Int32.add_zero]
  simp only [sub4]
theorem wd_opn (f : Nat → Int32) (b e : Nat) : o_Tokens_isWord2_r b e f = o_Mo_isWord_r 1 b e f 111 112 101 110 := by
  obtain ⟨-, -, -, -, -, -, -, -, a0, a1, a2, a3⟩ := chS_all
  unfold o_Tokens_isWord2_r o_Mo_isWord_r
  rw [a0, a1, a2, a3, if_pos rfl, Int32.add_zero]
  simp only [sub4]
theorem wd_reg (b e : Nat) : (o_Mo_isRegister_r 1 b e = 0) = (¬ nI e = nI (b + 1)) := by
  unfold o_Mo_isRegister_r
  rw [if_pos rfl, nI_succ]
  by_cases h : nI e = nI b + 1
  · rw [if_pos h]
    simp [h]
  · rw [if_neg h]
    simp [h]
