/-! the dealt parts make the input -/
theorem dlT_sum (fk : Nat → Int64) (fi : Nat → Int32) (rn : Int32) (j : Nat) : (dlT fk fi rn j).1 + (dlT fk fi rn j).2.1 + (dlT fk fi rn j).2.2 = fi (nI j).toNatClampNeg := by
  show pt0 (fk 0) rn j + pt0 (fk 1) rn j + (fi (nI j).toNatClampNeg - pt0 (fk 0) rn j - pt0 (fk 1) rn j) = fi (nI j).toNatClampNeg
  generalize pt0 (fk 0) rn j = a
  generalize pt0 (fk 1) rn j = b
  generalize fi (nI j).toNatClampNeg = z
  rw [Int32.add_comm (a + b), Int32.add_comm a b, ← Int32.add_assoc, Int32.sub_add_cancel, Int32.sub_add_cancel]
theorem gV_dl (Y : SyT) (x : Nat) (t : Int32 × Int32 × Int32) (j : Nat) : gV (gDl Y x t).1 j = if j = x then t.1 + t.2.1 + t.2.2 else gV Y.1 j := by
  show ((if j = x then t else Y.1 j).1 + (if j = x then t else Y.1 j).2.1 + (if j = x then t else Y.1 j).2.2) = _
  split
  · rfl
  · rfl
theorem in_ix {j : Nat} (hj : j < 8) : (26 + nI j).toNatClampNeg = 26 + j := by
  have e : (26 : Int32) + nI j = nI (26 + j) := nI_add 26 j
  rw [e, nI_clamp (by omega)]
/-- what the clerks hold of the inputs from i on, together -/
theorem gV_dlG (nm : Int32) (fk : Nat → Int64) (fi : Nat → Int32) (rn : Int32) : ∀ (u i : Nat) (Y : SyT), i + u ≤ 8 → ∀ j, gV (dlG nm fk fi rn u i Y).1 j = if 26 + i ≤ j ∧ j < 26 + i + u ∧ nmB nm (j - 26) then fi (j - 26) else gV Y.1 j
  | 0, i, Y, h, j => by
    show gV Y.1 j = _
    rw [if_neg (by omega)]
  | u + 1, i, Y, h, j => by
    rw [dlG_s (by omega), Nat.add_sub_cancel]
    by_cases hn : nmB nm i
    · rw [if_pos hn, gV_dlG nm fk fi rn u (i + 1) _ (by omega), gV_dl, in_ix (by omega), dlT_sum, nI_clamp (by omega)]
      by_cases hj : j = 26 + i
      · subst hj
        rw [if_neg (by omega), if_pos rfl, if_pos ⟨by omega, by omega, by rw [Nat.add_sub_cancel_left]; exact hn⟩, Nat.add_sub_cancel_left]
      · rw [if_neg hj]
        by_cases hc : 26 + (i + 1) ≤ j ∧ j < 26 + (i + 1) + u ∧ nmB nm (j - 26)
        · rw [if_pos hc, if_pos ⟨by omega, by omega, hc.2.2⟩]
        · rw [if_neg hc, if_neg (fun q => hc ⟨by omega, by omega, q.2.2⟩)]
    · rw [if_neg hn, gV_dlG nm fk fi rn u (i + 1) _ (by omega)]
      by_cases hc : 26 + (i + 1) ≤ j ∧ j < 26 + (i + 1) + u ∧ nmB nm (j - 26)
      · rw [if_pos hc, if_pos ⟨by omega, by omega, hc.2.2⟩]
      · rw [if_neg hc]
        by_cases hj : j = 26 + i
        · subst hj
          rw [if_neg (fun q => hn (by have := q.2.2; rw [Nat.add_sub_cancel_left] at this; exact this))]
        · rw [if_neg (fun q => hc ⟨by omega, by omega, q.2.2⟩)]
