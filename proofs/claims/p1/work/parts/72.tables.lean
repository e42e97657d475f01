/-! the words of the contracts stand in the tables -/
theorem inT_0 : ∀ w ∈ wsA_0, w ∈ lw_tbl := by decide +kernel
theorem inT_1 : ∀ w ∈ wsA_1, w ∈ lw_tbl := by decide +kernel
theorem inT_2 : ∀ w ∈ wsA_2, w ∈ lw_tbl := by decide +kernel
theorem inT_3 : ∀ w ∈ wsA_3, w ∈ lw_tbl := by decide +kernel
theorem inT_4 : ∀ w ∈ wsA_4, w ∈ lw_tbl := by decide +kernel
theorem inT_5 : ∀ w ∈ wsA_5, w ∈ lw_tbl := by decide +kernel
theorem inT_6 : ∀ w ∈ wsA_6, w ∈ lw_tbl := by decide +kernel
theorem inT_7 : ∀ w ∈ wsA_7, w ∈ lw_tbl := by decide +kernel
theorem inT_8 : ∀ w ∈ wsA_8, w ∈ lw_tbl := by decide +kernel
theorem inT_9 : ∀ w ∈ wsA_9, w ∈ lw_tbl := by decide +kernel
theorem inT_10 : ∀ w ∈ wsA_10, w ∈ lw_tbl := by decide +kernel
theorem inT_11 : ∀ w ∈ wsA_11, w ∈ lw_tbl := by decide +kernel
theorem inT_12 : ∀ w ∈ wsA_12, w ∈ lw_tbl := by decide +kernel
theorem inT_13 : ∀ w ∈ wsA_13, w ∈ lw_tbl := by decide +kernel
theorem inT_14 : ∀ w ∈ wsA_14, w ∈ lw_tbl := by decide +kernel
theorem inT_15 : ∀ w ∈ wsA_15, w ∈ lw_tbl := by decide +kernel
theorem inT_16 : ∀ w ∈ wsA_16, w ∈ lw_tbl := by decide +kernel
theorem inT_17 : ∀ w ∈ wsA_17, w ∈ lw_tbl := by decide +kernel
theorem inT_18 : ∀ w ∈ wsA_18, w ∈ lw_tbl := by decide +kernel
theorem inT_19 : ∀ w ∈ wsA_19, w ∈ lw_tbl := by decide +kernel
theorem inT_20 : ∀ w ∈ wsA_20, w ∈ lw_tbl := by decide +kernel
theorem inT_21 : ∀ w ∈ wsA_21, w ∈ lw_tbl := by decide +kernel
theorem inT_22 : ∀ w ∈ wsA_22, w ∈ lw_tbl := by decide +kernel
theorem inT_23 : ∀ w ∈ wsA_23, w ∈ lw_tbl := by decide +kernel
theorem inT : ∀ w ∈ wsA, w ∈ lw_tbl := by
  intro w h
  rcases List.mem_append.mp h with h | h
  · exact inT_0 w h
  rcases List.mem_append.mp h with h | h
  · exact inT_1 w h
  rcases List.mem_append.mp h with h | h
  · exact inT_2 w h
  rcases List.mem_append.mp h with h | h
  · exact inT_3 w h
  rcases List.mem_append.mp h with h | h
  · exact inT_4 w h
  rcases List.mem_append.mp h with h | h
  · exact inT_5 w h
  rcases List.mem_append.mp h with h | h
  · exact inT_6 w h
  rcases List.mem_append.mp h with h | h
  · exact inT_7 w h
  rcases List.mem_append.mp h with h | h
  · exact inT_8 w h
  rcases List.mem_append.mp h with h | h
  · exact inT_9 w h
  rcases List.mem_append.mp h with h | h
  · exact inT_10 w h
  rcases List.mem_append.mp h with h | h
  · exact inT_11 w h
  rcases List.mem_append.mp h with h | h
  · exact inT_12 w h
  rcases List.mem_append.mp h with h | h
  · exact inT_13 w h
  rcases List.mem_append.mp h with h | h
  · exact inT_14 w h
  rcases List.mem_append.mp h with h | h
  · exact inT_15 w h
  rcases List.mem_append.mp h with h | h
  · exact inT_16 w h
  rcases List.mem_append.mp h with h | h
  · exact inT_17 w h
  rcases List.mem_append.mp h with h | h
  · exact inT_18 w h
  rcases List.mem_append.mp h with h | h
  · exact inT_19 w h
  rcases List.mem_append.mp h with h | h
  · exact inT_20 w h
  rcases List.mem_append.mp h with h | h
  · exact inT_21 w h
  rcases List.mem_append.mp h with h | h
  · exact inT_22 w h
  exact inT_23 w h
