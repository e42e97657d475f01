/-! what the reference's write does -/
def mcd_ (ch : Int64) (k : Nat) : Int32 := (((ch >>> ((8 * (nI k)).toInt64 &&& 63)) &&& 255)).toInt32
def mwA (ch : Int64) : Nat → Nat → Nat → Option Nat
  | 0, _, n => some n
  | u + 1, k, n => if mcd_ ch k = 0 then mwA ch u (k + 1) n else if mcd_ ch k < 32 then none else if mcd_ ch k ≤ 126 then mwA ch u (k + 1) (n + 1) else none
def mwB (ch : Int64) : Nat → Nat → Nat → (Nat → Int32) → Nat × (Nat → Int32)
  | 0, _, L, f => (L, f)
  | u + 1, k, L, f => if mcd_ ch k = 0 then mwB ch u (k + 1) L f else mwB ch u (k + 1) (L + 1) (upd f (nI L).toNatClampNeg (vp_nar .char ((mcd_ ch k).toUInt32 % 65536).toInt32))
def mwR (ch : Int64) (L : Nat) (f : Nat → Int32) : Int32 × Nat × (Nat → Int32) := match mwA ch 8 0 0 with
  | none => (0, L, f)
  | some n => if nI L + nI n ≤ 120 then (1, mwB ch 8 0 L f) else (0, L, f)
theorem mwA_s {ch : Int64} {u k n : Nat} (hu : 0 < u) : mwA ch u k n = if mcd_ ch k = 0 then mwA ch (u - 1) (k + 1) n else if mcd_ ch k < 32 then none else if mcd_ ch k ≤ 126 then mwA ch (u - 1) (k + 1) (n + 1) else none := by
  obtain ⟨v, rfl⟩ : ∃ v, u = v + 1 := ⟨u - 1, by omega⟩
  rfl
theorem mwB_s {ch : Int64} {u k L : Nat} {f : Nat → Int32} (hu : 0 < u) : mwB ch u k L f = if mcd_ ch k = 0 then mwB ch (u - 1) (k + 1) L f else mwB ch (u - 1) (k + 1) (L + 1) (upd f (nI L).toNatClampNeg (vp_nar .char ((mcd_ ch k).toUInt32 % 65536).toInt32)) := by
  obtain ⟨v, rfl⟩ : ∃ v, u = v + 1 := ⟨u - 1, by omega⟩
  rfl
/-- how many are left to come: the places of the second walk fit -/
def mwC (ch : Int64) : Nat → Nat → Nat
  | 0, _ => 0
  | u + 1, k => if mcd_ ch k = 0 then mwC ch u (k + 1) else mwC ch u (k + 1) + 1
theorem mwC_s {ch : Int64} {u k : Nat} (hu : 0 < u) : mwC ch u k = if mcd_ ch k = 0 then mwC ch (u - 1) (k + 1) else mwC ch (u - 1) (k + 1) + 1 := by
  obtain ⟨v, rfl⟩ : ∃ v, u = v + 1 := ⟨u - 1, by omega⟩
  rfl
theorem mwA_C {ch : Int64} : ∀ (u k n m : Nat), mwA ch u k n = some m → m = n + mwC ch u k
  | 0, _, n, m, h => by cases h; rfl
  | u + 1, k, n, m, h => by
    rw [mwA_s (by omega)] at h
    rw [mwC_s (by omega)]
    simp only [Nat.add_sub_cancel] at h ⊢
    by_cases h0 : mcd_ ch k = 0
    · rw [if_pos h0] at h ⊢
      exact mwA_C u (k + 1) n m h
    · rw [if_neg h0] at h ⊢
      by_cases h1 : mcd_ ch k < 32
      · rw [if_pos h1] at h; cases h
      · rw [if_neg h1] at h
        by_cases h2 : mcd_ ch k ≤ 126
        · rw [if_pos h2] at h
          have := mwA_C u (k + 1) (n + 1) m h
          omega
        · rw [if_neg h2] at h; cases h
theorem mwC_le {ch : Int64} : ∀ (u k : Nat), mwC ch u k ≤ u
  | 0, _ => Nat.le_refl _
  | u + 1, k => by
    rw [mwC_s (by omega)]
    have := mwC_le (ch := ch) u (k + 1)
    simp only [Nat.add_sub_cancel]
    split <;> omega

theorem d_Mo_init_0 : decode b_Mo_init 0 = .ok (.aload_n 0, 1) := by decide +kernel
theorem d_Mo_init_1 : decode b_Mo_init 1 = .ok (.invokespecial 1, 3) := by decide +kernel
theorem d_Mo_init_4 : decode b_Mo_init 4 = .ok (.aload_n 0, 1) := by decide +kernel
theorem d_Mo_init_5 : decode b_Mo_init 5 = .ok (.bipush 120, 2) := by decide +kernel
theorem d_Mo_init_7 : decode b_Mo_init 7 = .ok (.newarray .char, 2) := by decide +kernel
theorem d_Mo_init_9 : decode b_Mo_init 9 = .ok (.putfield 7, 3) := by decide +kernel
theorem d_Mo_init_12 : decode b_Mo_init 12 = .ok (.aload_n 0, 1) := by decide +kernel
theorem d_Mo_init_13 : decode b_Mo_init 13 = .ok (.iconst (-1), 1) := by decide +kernel
theorem d_Mo_init_14 : decode b_Mo_init 14 = .ok (.putfield 13, 3) := by decide +kernel
theorem d_Mo_init_17 : decode b_Mo_init 17 = .ok (.aload_n 0, 1) := by decide +kernel
theorem d_Mo_init_18 : decode b_Mo_init 18 = .ok (.sipush 400, 3) := by decide +kernel
theorem d_Mo_init_21 : decode b_Mo_init 21 = .ok (.newarray .int, 2) := by decide +kernel
theorem d_Mo_init_23 : decode b_Mo_init 23 = .ok (.putfield 17, 3) := by decide +kernel
theorem d_Mo_init_26 : decode b_Mo_init 26 = .ok (.aload_n 0, 1) := by decide +kernel
theorem d_Mo_init_27 : decode b_Mo_init 27 = .ok (.sipush 400, 3) := by decide +kernel
theorem d_Mo_init_30 : decode b_Mo_init 30 = .ok (.newarray .int, 2) := by decide +kernel
theorem d_Mo_init_32 : decode b_Mo_init 32 = .ok (.putfield 21, 3) := by decide +kernel
theorem d_Mo_init_35 : decode b_Mo_init 35 = .ok (.aload_n 0, 1) := by decide +kernel
theorem d_Mo_init_36 : decode b_Mo_init 36 = .ok (.bipush 8, 2) := by decide +kernel
theorem d_Mo_init_38 : decode b_Mo_init 38 = .ok (.newarray .boolean, 2) := by decide +kernel
theorem d_Mo_init_40 : decode b_Mo_init 40 = .ok (.putfield 24, 3) := by decide +kernel
theorem d_Mo_init_43 : decode b_Mo_init 43 = .ok (.aload_n 0, 1) := by decide +kernel
theorem d_Mo_init_44 : decode b_Mo_init 44 = .ok (.bipush 8, 2) := by decide +kernel
theorem d_Mo_init_46 : decode b_Mo_init 46 = .ok (.newarray .int, 2) := by decide +kernel
theorem d_Mo_init_48 : decode b_Mo_init 48 = .ok (.putfield 28, 3) := by decide +kernel
theorem d_Mo_init_51 : decode b_Mo_init 51 = .ok (.aload_n 0, 1) := by decide +kernel
theorem d_Mo_init_52 : decode b_Mo_init 52 = .ok (.iconst 3, 1) := by decide +kernel
theorem d_Mo_init_53 : decode b_Mo_init 53 = .ok (.newarray .boolean, 2) := by decide +kernel
theorem d_Mo_init_55 : decode b_Mo_init 55 = .ok (.putfield 31, 3) := by decide +kernel
theorem d_Mo_init_58 : decode b_Mo_init 58 = .ok (.aload_n 0, 1) := by decide +kernel
theorem d_Mo_init_59 : decode b_Mo_init 59 = .ok (.bipush 26, 2) := by decide +kernel
theorem d_Mo_init_61 : decode b_Mo_init 61 = .ok (.newarray .int, 2) := by decide +kernel
theorem d_Mo_init_63 : decode b_Mo_init 63 = .ok (.putfield 34, 3) := by decide +kernel
theorem d_Mo_init_66 : decode b_Mo_init 66 = .ok (.aload_n 0, 1) := by decide +kernel
theorem d_Mo_init_67 : decode b_Mo_init 67 = .ok (.bipush 16, 2) := by decide +kernel
theorem d_Mo_init_69 : decode b_Mo_init 69 = .ok (.newarray .int, 2) := by decide +kernel
theorem d_Mo_init_71 : decode b_Mo_init 71 = .ok (.putfield 37, 3) := by decide +kernel
theorem d_Mo_init_74 : decode b_Mo_init 74 = .ok (.return_, 1) := by decide +kernel
theorem d_Mo_thrown_0 : decode b_Mo_thrown 0 = .ok (.aload_n 0, 1) := by decide +kernel
theorem d_Mo_thrown_1 : decode b_Mo_thrown 1 = .ok (.getfield 40, 3) := by decide +kernel
theorem d_Mo_thrown_4 : decode b_Mo_thrown 4 = .ok (.ireturn, 1) := by decide +kernel
theorem d_Mo_write_0 : decode b_Mo_write 0 = .ok (.aload_n 0, 1) := by decide +kernel
theorem d_Mo_write_1 : decode b_Mo_write 1 = .ok (.iconst 0, 1) := by decide +kernel
theorem d_Mo_write_2 : decode b_Mo_write 2 = .ok (.putfield 40, 3) := by decide +kernel
theorem d_Mo_write_5 : decode b_Mo_write 5 = .ok (.iconst 0, 1) := by decide +kernel
theorem d_Mo_write_6 : decode b_Mo_write 6 = .ok (.istore_n 3, 1) := by decide +kernel
theorem d_Mo_write_7 : decode b_Mo_write 7 = .ok (.iconst 0, 1) := by decide +kernel
theorem d_Mo_write_8 : decode b_Mo_write 8 = .ok (.istore 4, 2) := by decide +kernel
theorem d_Mo_write_10 : decode b_Mo_write 10 = .ok (.iload 4, 2) := by decide +kernel
theorem d_Mo_write_12 : decode b_Mo_write 12 = .ok (.bipush 8, 2) := by decide +kernel
theorem d_Mo_write_14 : decode b_Mo_write 14 = .ok (.if_icmp .ge 57, 3) := by decide +kernel
theorem d_Mo_write_17 : decode b_Mo_write 17 = .ok (.lload_n 1, 1) := by decide +kernel
theorem d_Mo_write_18 : decode b_Mo_write 18 = .ok (.bipush 8, 2) := by decide +kernel
theorem d_Mo_write_20 : decode b_Mo_write 20 = .ok (.iload 4, 2) := by decide +kernel
theorem d_Mo_write_22 : decode b_Mo_write 22 = .ok (.imul, 1) := by decide +kernel
theorem d_Mo_write_23 : decode b_Mo_write 23 = .ok (.lshr, 1) := by decide +kernel
theorem d_Mo_write_24 : decode b_Mo_write 24 = .ok (.ldc2_w 43, 3) := by decide +kernel
theorem d_Mo_write_27 : decode b_Mo_write 27 = .ok (.land, 1) := by decide +kernel
theorem d_Mo_write_28 : decode b_Mo_write 28 = .ok (.l2i, 1) := by decide +kernel
theorem d_Mo_write_29 : decode b_Mo_write 29 = .ok (.istore 5, 2) := by decide +kernel
theorem d_Mo_write_31 : decode b_Mo_write 31 = .ok (.iload 5, 2) := by decide +kernel
theorem d_Mo_write_33 : decode b_Mo_write 33 = .ok (.ifCond .eq 19, 3) := by decide +kernel
theorem d_Mo_write_36 : decode b_Mo_write 36 = .ok (.iload 5, 2) := by decide +kernel
theorem d_Mo_write_38 : decode b_Mo_write 38 = .ok (.bipush 32, 2) := by decide +kernel
theorem d_Mo_write_40 : decode b_Mo_write 40 = .ok (.if_icmp .lt 10, 3) := by decide +kernel
theorem d_Mo_write_43 : decode b_Mo_write 43 = .ok (.iload 5, 2) := by decide +kernel
theorem d_Mo_write_45 : decode b_Mo_write 45 = .ok (.bipush 126, 2) := by decide +kernel
theorem d_Mo_write_47 : decode b_Mo_write 47 = .ok (.if_icmp .le 5, 3) := by decide +kernel
theorem d_Mo_write_50 : decode b_Mo_write 50 = .ok (.iconst 0, 1) := by decide +kernel
theorem d_Mo_write_51 : decode b_Mo_write 51 = .ok (.ireturn, 1) := by decide +kernel
theorem d_Mo_write_52 : decode b_Mo_write 52 = .ok (.iload_n 3, 1) := by decide +kernel
theorem d_Mo_write_53 : decode b_Mo_write 53 = .ok (.iload 5, 2) := by decide +kernel
theorem d_Mo_write_55 : decode b_Mo_write 55 = .ok (.ifCond .ne 7, 3) := by decide +kernel
theorem d_Mo_write_58 : decode b_Mo_write 58 = .ok (.iconst 0, 1) := by decide +kernel
theorem d_Mo_write_59 : decode b_Mo_write 59 = .ok (.goto 4, 3) := by decide +kernel
theorem d_Mo_write_62 : decode b_Mo_write 62 = .ok (.iconst 1, 1) := by decide +kernel
theorem d_Mo_write_63 : decode b_Mo_write 63 = .ok (.iadd, 1) := by decide +kernel
theorem d_Mo_write_64 : decode b_Mo_write 64 = .ok (.istore_n 3, 1) := by decide +kernel
theorem d_Mo_write_65 : decode b_Mo_write 65 = .ok (.iinc 4 1, 3) := by decide +kernel
theorem d_Mo_write_68 : decode b_Mo_write 68 = .ok (.goto (-58), 3) := by decide +kernel
theorem d_Mo_write_71 : decode b_Mo_write 71 = .ok (.aload_n 0, 1) := by decide +kernel
theorem d_Mo_write_72 : decode b_Mo_write 72 = .ok (.getfield 45, 3) := by decide +kernel
theorem d_Mo_write_75 : decode b_Mo_write 75 = .ok (.iload_n 3, 1) := by decide +kernel
theorem d_Mo_write_76 : decode b_Mo_write 76 = .ok (.iadd, 1) := by decide +kernel
theorem d_Mo_write_77 : decode b_Mo_write 77 = .ok (.bipush 120, 2) := by decide +kernel
theorem d_Mo_write_79 : decode b_Mo_write 79 = .ok (.if_icmp .le 5, 3) := by decide +kernel
theorem d_Mo_write_82 : decode b_Mo_write 82 = .ok (.iconst 0, 1) := by decide +kernel
theorem d_Mo_write_83 : decode b_Mo_write 83 = .ok (.ireturn, 1) := by decide +kernel
theorem d_Mo_write_84 : decode b_Mo_write 84 = .ok (.iconst 0, 1) := by decide +kernel
theorem d_Mo_write_85 : decode b_Mo_write 85 = .ok (.istore 4, 2) := by decide +kernel
theorem d_Mo_write_87 : decode b_Mo_write 87 = .ok (.iload 4, 2) := by decide +kernel
theorem d_Mo_write_89 : decode b_Mo_write 89 = .ok (.bipush 8, 2) := by decide +kernel
theorem d_Mo_write_91 : decode b_Mo_write 91 = .ok (.if_icmp .ge 50, 3) := by decide +kernel
theorem d_Mo_write_94 : decode b_Mo_write 94 = .ok (.lload_n 1, 1) := by decide +kernel
theorem d_Mo_write_95 : decode b_Mo_write 95 = .ok (.bipush 8, 2) := by decide +kernel
theorem d_Mo_write_97 : decode b_Mo_write 97 = .ok (.iload 4, 2) := by decide +kernel
theorem d_Mo_write_99 : decode b_Mo_write 99 = .ok (.imul, 1) := by decide +kernel
theorem d_Mo_write_100 : decode b_Mo_write 100 = .ok (.lshr, 1) := by decide +kernel
theorem d_Mo_write_101 : decode b_Mo_write 101 = .ok (.ldc2_w 43, 3) := by decide +kernel
theorem d_Mo_write_104 : decode b_Mo_write 104 = .ok (.land, 1) := by decide +kernel
theorem d_Mo_write_105 : decode b_Mo_write 105 = .ok (.l2i, 1) := by decide +kernel
theorem d_Mo_write_106 : decode b_Mo_write 106 = .ok (.istore 5, 2) := by decide +kernel
theorem d_Mo_write_108 : decode b_Mo_write 108 = .ok (.iload 5, 2) := by decide +kernel
theorem d_Mo_write_110 : decode b_Mo_write 110 = .ok (.ifCond .eq 25, 3) := by decide +kernel
theorem d_Mo_write_113 : decode b_Mo_write 113 = .ok (.aload_n 0, 1) := by decide +kernel
theorem d_Mo_write_114 : decode b_Mo_write 114 = .ok (.getfield 7, 3) := by decide +kernel
theorem d_Mo_write_117 : decode b_Mo_write 117 = .ok (.aload_n 0, 1) := by decide +kernel
theorem d_Mo_write_118 : decode b_Mo_write 118 = .ok (.getfield 45, 3) := by decide +kernel
theorem d_Mo_write_121 : decode b_Mo_write 121 = .ok (.iload 5, 2) := by decide +kernel
theorem d_Mo_write_123 : decode b_Mo_write 123 = .ok (.i2c, 1) := by decide +kernel
theorem d_Mo_write_124 : decode b_Mo_write 124 = .ok (.castore, 1) := by decide +kernel
theorem d_Mo_write_125 : decode b_Mo_write 125 = .ok (.aload_n 0, 1) := by decide +kernel
theorem d_Mo_write_126 : decode b_Mo_write 126 = .ok (.dup, 1) := by decide +kernel
theorem d_Mo_write_127 : decode b_Mo_write 127 = .ok (.getfield 45, 3) := by decide +kernel
theorem d_Mo_write_130 : decode b_Mo_write 130 = .ok (.iconst 1, 1) := by decide +kernel
theorem d_Mo_write_131 : decode b_Mo_write 131 = .ok (.iadd, 1) := by decide +kernel
theorem d_Mo_write_132 : decode b_Mo_write 132 = .ok (.putfield 45, 3) := by decide +kernel
theorem d_Mo_write_135 : decode b_Mo_write 135 = .ok (.iinc 4 1, 3) := by decide +kernel
theorem d_Mo_write_138 : decode b_Mo_write 138 = .ok (.goto (-51), 3) := by decide +kernel
theorem d_Mo_write_141 : decode b_Mo_write 141 = .ok (.iconst 1, 1) := by decide +kernel
theorem d_Mo_write_142 : decode b_Mo_write 142 = .ok (.ireturn, 1) := by decide +kernel
theorem d_Mo_wipe_0 : decode b_Mo_wipe 0 = .ok (.aload_n 0, 1) := by decide +kernel
theorem d_Mo_wipe_1 : decode b_Mo_wipe 1 = .ok (.iconst 0, 1) := by decide +kernel
theorem d_Mo_wipe_2 : decode b_Mo_wipe 2 = .ok (.putfield 40, 3) := by decide +kernel
theorem d_Mo_wipe_5 : decode b_Mo_wipe 5 = .ok (.aload_n 0, 1) := by decide +kernel
theorem d_Mo_wipe_6 : decode b_Mo_wipe 6 = .ok (.getfield 45, 3) := by decide +kernel
theorem d_Mo_wipe_9 : decode b_Mo_wipe 9 = .ok (.istore_n 1, 1) := by decide +kernel
theorem d_Mo_wipe_10 : decode b_Mo_wipe 10 = .ok (.aload_n 0, 1) := by decide +kernel
theorem d_Mo_wipe_11 : decode b_Mo_wipe 11 = .ok (.iconst 0, 1) := by decide +kernel
theorem d_Mo_wipe_12 : decode b_Mo_wipe 12 = .ok (.putfield 45, 3) := by decide +kernel
theorem d_Mo_wipe_15 : decode b_Mo_wipe 15 = .ok (.iload_n 1, 1) := by decide +kernel
theorem d_Mo_wipe_16 : decode b_Mo_wipe 16 = .ok (.ireturn, 1) := by decide +kernel
theorem d_Mo_isLetter_0 : decode b_Mo_isLetter 0 = .ok (.iload_n 0, 1) := by decide +kernel
theorem d_Mo_isLetter_1 : decode b_Mo_isLetter 1 = .ok (.bipush 97, 2) := by decide +kernel
theorem d_Mo_isLetter_3 : decode b_Mo_isLetter 3 = .ok (.if_icmp .lt 13, 3) := by decide +kernel
theorem d_Mo_isLetter_6 : decode b_Mo_isLetter 6 = .ok (.iload_n 0, 1) := by decide +kernel
theorem d_Mo_isLetter_7 : decode b_Mo_isLetter 7 = .ok (.bipush 122, 2) := by decide +kernel
theorem d_Mo_isLetter_9 : decode b_Mo_isLetter 9 = .ok (.if_icmp .gt 7, 3) := by decide +kernel
theorem d_Mo_isLetter_12 : decode b_Mo_isLetter 12 = .ok (.iconst 1, 1) := by decide +kernel
theorem d_Mo_isLetter_13 : decode b_Mo_isLetter 13 = .ok (.goto 4, 3) := by decide +kernel
theorem d_Mo_isLetter_16 : decode b_Mo_isLetter 16 = .ok (.iconst 0, 1) := by decide +kernel
theorem d_Mo_isLetter_17 : decode b_Mo_isLetter 17 = .ok (.ireturn, 1) := by decide +kernel
theorem d_Mo_isDigit_0 : decode b_Mo_isDigit 0 = .ok (.iload_n 0, 1) := by decide +kernel
theorem d_Mo_isDigit_1 : decode b_Mo_isDigit 1 = .ok (.bipush 48, 2) := by decide +kernel
theorem d_Mo_isDigit_3 : decode b_Mo_isDigit 3 = .ok (.if_icmp .lt 13, 3) := by decide +kernel
theorem d_Mo_isDigit_6 : decode b_Mo_isDigit 6 = .ok (.iload_n 0, 1) := by decide +kernel
theorem d_Mo_isDigit_7 : decode b_Mo_isDigit 7 = .ok (.bipush 57, 2) := by decide +kernel
theorem d_Mo_isDigit_9 : decode b_Mo_isDigit 9 = .ok (.if_icmp .gt 7, 3) := by decide +kernel
theorem d_Mo_isDigit_12 : decode b_Mo_isDigit 12 = .ok (.iconst 1, 1) := by decide +kernel
theorem d_Mo_isDigit_13 : decode b_Mo_isDigit 13 = .ok (.goto 4, 3) := by decide +kernel
theorem d_Mo_isDigit_16 : decode b_Mo_isDigit 16 = .ok (.iconst 0, 1) := by decide +kernel
theorem d_Mo_isDigit_17 : decode b_Mo_isDigit 17 = .ok (.ireturn, 1) := by decide +kernel
theorem d_Mo_isSign_0 : decode b_Mo_isSign 0 = .ok (.iload_n 0, 1) := by decide +kernel
theorem d_Mo_isSign_1 : decode b_Mo_isSign 1 = .ok (.bipush 61, 2) := by decide +kernel
theorem d_Mo_isSign_3 : decode b_Mo_isSign 3 = .ok (.if_icmp .eq 51, 3) := by decide +kernel
theorem d_Mo_isSign_6 : decode b_Mo_isSign 6 = .ok (.iload_n 0, 1) := by decide +kernel
theorem d_Mo_isSign_7 : decode b_Mo_isSign 7 = .ok (.bipush 43, 2) := by decide +kernel
theorem d_Mo_isSign_9 : decode b_Mo_isSign 9 = .ok (.if_icmp .eq 45, 3) := by decide +kernel
theorem d_Mo_isSign_12 : decode b_Mo_isSign 12 = .ok (.iload_n 0, 1) := by decide +kernel
theorem d_Mo_isSign_13 : decode b_Mo_isSign 13 = .ok (.bipush 45, 2) := by decide +kernel
theorem d_Mo_isSign_15 : decode b_Mo_isSign 15 = .ok (.if_icmp .eq 39, 3) := by decide +kernel
theorem d_Mo_isSign_18 : decode b_Mo_isSign 18 = .ok (.iload_n 0, 1) := by decide +kernel
theorem d_Mo_isSign_19 : decode b_Mo_isSign 19 = .ok (.bipush 42, 2) := by decide +kernel
theorem d_Mo_isSign_21 : decode b_Mo_isSign 21 = .ok (.if_icmp .eq 33, 3) := by decide +kernel
theorem d_Mo_isSign_24 : decode b_Mo_isSign 24 = .ok (.iload_n 0, 1) := by decide +kernel
theorem d_Mo_isSign_25 : decode b_Mo_isSign 25 = .ok (.bipush 60, 2) := by decide +kernel
theorem d_Mo_isSign_27 : decode b_Mo_isSign 27 = .ok (.if_icmp .eq 27, 3) := by decide +kernel
theorem d_Mo_isSign_30 : decode b_Mo_isSign 30 = .ok (.iload_n 0, 1) := by decide +kernel
theorem d_Mo_isSign_31 : decode b_Mo_isSign 31 = .ok (.bipush 63, 2) := by decide +kernel
theorem d_Mo_isSign_33 : decode b_Mo_isSign 33 = .ok (.if_icmp .eq 21, 3) := by decide +kernel
theorem d_Mo_isSign_36 : decode b_Mo_isSign 36 = .ok (.iload_n 0, 1) := by decide +kernel
theorem d_Mo_isSign_37 : decode b_Mo_isSign 37 = .ok (.bipush 58, 2) := by decide +kernel
theorem d_Mo_isSign_39 : decode b_Mo_isSign 39 = .ok (.if_icmp .eq 15, 3) := by decide +kernel
theorem d_Mo_isSign_42 : decode b_Mo_isSign 42 = .ok (.iload_n 0, 1) := by decide +kernel
theorem d_Mo_isSign_43 : decode b_Mo_isSign 43 = .ok (.bipush 59, 2) := by decide +kernel
theorem d_Mo_isSign_45 : decode b_Mo_isSign 45 = .ok (.if_icmp .eq 9, 3) := by decide +kernel
theorem d_Mo_isSign_48 : decode b_Mo_isSign 48 = .ok (.iload_n 0, 1) := by decide +kernel
theorem d_Mo_isSign_49 : decode b_Mo_isSign 49 = .ok (.bipush 36, 2) := by decide +kernel
theorem d_Mo_isSign_51 : decode b_Mo_isSign 51 = .ok (.if_icmp .ne 7, 3) := by decide +kernel
theorem d_Mo_isSign_54 : decode b_Mo_isSign 54 = .ok (.iconst 1, 1) := by decide +kernel
theorem d_Mo_isSign_55 : decode b_Mo_isSign 55 = .ok (.goto 4, 3) := by decide +kernel
theorem d_Mo_isSign_58 : decode b_Mo_isSign 58 = .ok (.iconst 0, 1) := by decide +kernel
theorem d_Mo_isSign_59 : decode b_Mo_isSign 59 = .ok (.ireturn, 1) := by decide +kernel
theorem d_Mo_see_0 : decode b_Mo_see 0 = .ok (.iload_n 1, 1) := by decide +kernel
theorem d_Mo_see_1 : decode b_Mo_see 1 = .ok (.aload_n 0, 1) := by decide +kernel
theorem d_Mo_see_2 : decode b_Mo_see 2 = .ok (.getfield 45, 3) := by decide +kernel
theorem d_Mo_see_5 : decode b_Mo_see 5 = .ok (.if_icmp .ge 12, 3) := by decide +kernel
theorem d_Mo_see_8 : decode b_Mo_see 8 = .ok (.aload_n 0, 1) := by decide +kernel
theorem d_Mo_see_9 : decode b_Mo_see 9 = .ok (.getfield 7, 3) := by decide +kernel
theorem d_Mo_see_12 : decode b_Mo_see 12 = .ok (.iload_n 1, 1) := by decide +kernel
theorem d_Mo_see_13 : decode b_Mo_see 13 = .ok (.caload, 1) := by decide +kernel
theorem d_Mo_see_14 : decode b_Mo_see 14 = .ok (.goto 4, 3) := by decide +kernel
theorem d_Mo_see_17 : decode b_Mo_see 17 = .ok (.iconst 0, 1) := by decide +kernel
theorem d_Mo_see_18 : decode b_Mo_see 18 = .ok (.ireturn, 1) := by decide +kernel
theorem d_Mo_scan_0 : decode b_Mo_scan 0 = .ok (.aload_n 0, 1) := by decide +kernel
theorem d_Mo_scan_1 : decode b_Mo_scan 1 = .ok (.iload_n 1, 1) := by decide +kernel
theorem d_Mo_scan_2 : decode b_Mo_scan 2 = .ok (.putfield 48, 3) := by decide +kernel
theorem d_Mo_scan_5 : decode b_Mo_scan 5 = .ok (.aload_n 0, 1) := by decide +kernel
theorem d_Mo_scan_6 : decode b_Mo_scan 6 = .ok (.aload_n 0, 1) := by decide +kernel
theorem d_Mo_scan_7 : decode b_Mo_scan 7 = .ok (.getfield 48, 3) := by decide +kernel
theorem d_Mo_scan_10 : decode b_Mo_scan 10 = .ok (.invokevirtual 51, 3) := by decide +kernel
theorem d_Mo_scan_13 : decode b_Mo_scan 13 = .ok (.bipush 32, 2) := by decide +kernel
theorem d_Mo_scan_15 : decode b_Mo_scan 15 = .ok (.if_icmp .ne 16, 3) := by decide +kernel
theorem d_Mo_scan_18 : decode b_Mo_scan 18 = .ok (.aload_n 0, 1) := by decide +kernel
theorem d_Mo_scan_19 : decode b_Mo_scan 19 = .ok (.dup, 1) := by decide +kernel
theorem d_Mo_scan_20 : decode b_Mo_scan 20 = .ok (.getfield 48, 3) := by decide +kernel
theorem d_Mo_scan_23 : decode b_Mo_scan 23 = .ok (.iconst 1, 1) := by decide +kernel
theorem d_Mo_scan_24 : decode b_Mo_scan 24 = .ok (.iadd, 1) := by decide +kernel
theorem d_Mo_scan_25 : decode b_Mo_scan 25 = .ok (.putfield 48, 3) := by decide +kernel
theorem d_Mo_scan_28 : decode b_Mo_scan 28 = .ok (.goto (-23), 3) := by decide +kernel
theorem d_Mo_scan_31 : decode b_Mo_scan 31 = .ok (.aload_n 0, 1) := by decide +kernel
theorem d_Mo_scan_32 : decode b_Mo_scan 32 = .ok (.aload_n 0, 1) := by decide +kernel
theorem d_Mo_scan_33 : decode b_Mo_scan 33 = .ok (.getfield 48, 3) := by decide +kernel
theorem d_Mo_scan_36 : decode b_Mo_scan 36 = .ok (.putfield 55, 3) := by decide +kernel
theorem d_Mo_scan_39 : decode b_Mo_scan 39 = .ok (.aload_n 0, 1) := by decide +kernel
theorem d_Mo_scan_40 : decode b_Mo_scan 40 = .ok (.iconst 0, 1) := by decide +kernel
theorem d_Mo_scan_41 : decode b_Mo_scan 41 = .ok (.putfield 58, 3) := by decide +kernel
theorem d_Mo_scan_44 : decode b_Mo_scan 44 = .ok (.aload_n 0, 1) := by decide +kernel
theorem d_Mo_scan_45 : decode b_Mo_scan 45 = .ok (.aload_n 0, 1) := by decide +kernel
theorem d_Mo_scan_46 : decode b_Mo_scan 46 = .ok (.getfield 48, 3) := by decide +kernel
theorem d_Mo_scan_49 : decode b_Mo_scan 49 = .ok (.invokevirtual 51, 3) := by decide +kernel
theorem d_Mo_scan_52 : decode b_Mo_scan 52 = .ok (.istore_n 2, 1) := by decide +kernel
theorem d_Mo_scan_53 : decode b_Mo_scan 53 = .ok (.aload_n 0, 1) := by decide +kernel
theorem d_Mo_scan_54 : decode b_Mo_scan 54 = .ok (.aload_n 0, 1) := by decide +kernel
theorem d_Mo_scan_55 : decode b_Mo_scan 55 = .ok (.getfield 48, 3) := by decide +kernel
theorem d_Mo_scan_58 : decode b_Mo_scan 58 = .ok (.aload_n 0, 1) := by decide +kernel
theorem d_Mo_scan_59 : decode b_Mo_scan 59 = .ok (.getfield 45, 3) := by decide +kernel
theorem d_Mo_scan_62 : decode b_Mo_scan 62 = .ok (.if_icmp .lt 7, 3) := by decide +kernel
theorem d_Mo_scan_65 : decode b_Mo_scan 65 = .ok (.iconst 0, 1) := by decide +kernel
theorem d_Mo_scan_66 : decode b_Mo_scan 66 = .ok (.goto 37, 3) := by decide +kernel
theorem d_Mo_scan_69 : decode b_Mo_scan 69 = .ok (.iload_n 2, 1) := by decide +kernel
theorem d_Mo_scan_70 : decode b_Mo_scan 70 = .ok (.invokestatic 61, 3) := by decide +kernel
theorem d_Mo_scan_73 : decode b_Mo_scan 73 = .ok (.ifCond .eq 7, 3) := by decide +kernel
theorem d_Mo_scan_76 : decode b_Mo_scan 76 = .ok (.iconst 1, 1) := by decide +kernel
theorem d_Mo_scan_77 : decode b_Mo_scan 77 = .ok (.goto 26, 3) := by decide +kernel
theorem d_Mo_scan_80 : decode b_Mo_scan 80 = .ok (.iload_n 2, 1) := by decide +kernel
theorem d_Mo_scan_81 : decode b_Mo_scan 81 = .ok (.invokestatic 65, 3) := by decide +kernel
theorem d_Mo_scan_84 : decode b_Mo_scan 84 = .ok (.ifCond .eq 7, 3) := by decide +kernel
theorem d_Mo_scan_87 : decode b_Mo_scan 87 = .ok (.iconst 2, 1) := by decide +kernel
theorem d_Mo_scan_88 : decode b_Mo_scan 88 = .ok (.goto 15, 3) := by decide +kernel
theorem d_Mo_scan_91 : decode b_Mo_scan 91 = .ok (.iload_n 2, 1) := by decide +kernel
theorem d_Mo_scan_92 : decode b_Mo_scan 92 = .ok (.invokestatic 68, 3) := by decide +kernel
theorem d_Mo_scan_95 : decode b_Mo_scan 95 = .ok (.ifCond .eq 7, 3) := by decide +kernel
theorem d_Mo_scan_98 : decode b_Mo_scan 98 = .ok (.iconst 3, 1) := by decide +kernel
theorem d_Mo_scan_99 : decode b_Mo_scan 99 = .ok (.goto 4, 3) := by decide +kernel
theorem d_Mo_scan_102 : decode b_Mo_scan 102 = .ok (.iconst 4, 1) := by decide +kernel
theorem d_Mo_scan_103 : decode b_Mo_scan 103 = .ok (.putfield 71, 3) := by decide +kernel
theorem d_Mo_scan_106 : decode b_Mo_scan 106 = .ok (.aload_n 0, 1) := by decide +kernel
theorem d_Mo_scan_107 : decode b_Mo_scan 107 = .ok (.getfield 71, 3) := by decide +kernel
theorem d_Mo_scan_110 : decode b_Mo_scan 110 = .ok (.iconst 1, 1) := by decide +kernel
theorem d_Mo_scan_111 : decode b_Mo_scan 111 = .ok (.if_icmp .ne 30, 3) := by decide +kernel
theorem d_Mo_scan_114 : decode b_Mo_scan 114 = .ok (.aload_n 0, 1) := by decide +kernel
theorem d_Mo_scan_115 : decode b_Mo_scan 115 = .ok (.aload_n 0, 1) := by decide +kernel
theorem d_Mo_scan_116 : decode b_Mo_scan 116 = .ok (.getfield 55, 3) := by decide +kernel
theorem d_Mo_scan_119 : decode b_Mo_scan 119 = .ok (.invokevirtual 51, 3) := by decide +kernel
theorem d_Mo_scan_122 : decode b_Mo_scan 122 = .ok (.invokestatic 61, 3) := by decide +kernel
theorem d_Mo_scan_125 : decode b_Mo_scan 125 = .ok (.ifCond .eq 134, 3) := by decide +kernel
theorem d_Mo_scan_128 : decode b_Mo_scan 128 = .ok (.aload_n 0, 1) := by decide +kernel
theorem d_Mo_scan_129 : decode b_Mo_scan 129 = .ok (.dup, 1) := by decide +kernel
theorem d_Mo_scan_130 : decode b_Mo_scan 130 = .ok (.getfield 55, 3) := by decide +kernel
theorem d_Mo_scan_133 : decode b_Mo_scan 133 = .ok (.iconst 1, 1) := by decide +kernel
theorem d_Mo_scan_134 : decode b_Mo_scan 134 = .ok (.iadd, 1) := by decide +kernel
theorem d_Mo_scan_135 : decode b_Mo_scan 135 = .ok (.putfield 55, 3) := by decide +kernel
theorem d_Mo_scan_138 : decode b_Mo_scan 138 = .ok (.goto (-24), 3) := by decide +kernel
theorem d_Mo_scan_141 : decode b_Mo_scan 141 = .ok (.aload_n 0, 1) := by decide +kernel
theorem d_Mo_scan_142 : decode b_Mo_scan 142 = .ok (.getfield 71, 3) := by decide +kernel
theorem d_Mo_scan_145 : decode b_Mo_scan 145 = .ok (.iconst 2, 1) := by decide +kernel
theorem d_Mo_scan_146 : decode b_Mo_scan 146 = .ok (.if_icmp .ne 95, 3) := by decide +kernel
theorem d_Mo_scan_149 : decode b_Mo_scan 149 = .ok (.aload_n 0, 1) := by decide +kernel
theorem d_Mo_scan_150 : decode b_Mo_scan 150 = .ok (.aload_n 0, 1) := by decide +kernel
theorem d_Mo_scan_151 : decode b_Mo_scan 151 = .ok (.getfield 55, 3) := by decide +kernel
theorem d_Mo_scan_154 : decode b_Mo_scan 154 = .ok (.invokevirtual 51, 3) := by decide +kernel
theorem d_Mo_scan_157 : decode b_Mo_scan 157 = .ok (.invokestatic 65, 3) := by decide +kernel
theorem d_Mo_scan_160 : decode b_Mo_scan 160 = .ok (.ifCond .eq 56, 3) := by decide +kernel
theorem d_Mo_scan_163 : decode b_Mo_scan 163 = .ok (.aload_n 0, 1) := by decide +kernel
theorem d_Mo_scan_164 : decode b_Mo_scan 164 = .ok (.aload_n 0, 1) := by decide +kernel
theorem d_Mo_scan_165 : decode b_Mo_scan 165 = .ok (.getfield 55, 3) := by decide +kernel
theorem d_Mo_scan_168 : decode b_Mo_scan 168 = .ok (.aload_n 0, 1) := by decide +kernel
theorem d_Mo_scan_169 : decode b_Mo_scan 169 = .ok (.getfield 48, 3) := by decide +kernel
theorem d_Mo_scan_172 : decode b_Mo_scan 172 = .ok (.isub, 1) := by decide +kernel
theorem d_Mo_scan_173 : decode b_Mo_scan 173 = .ok (.iconst 3, 1) := by decide +kernel
theorem d_Mo_scan_174 : decode b_Mo_scan 174 = .ok (.if_icmp .ge 25, 3) := by decide +kernel
theorem d_Mo_scan_177 : decode b_Mo_scan 177 = .ok (.bipush 10, 2) := by decide +kernel
theorem d_Mo_scan_179 : decode b_Mo_scan 179 = .ok (.aload_n 0, 1) := by decide +kernel
theorem d_Mo_scan_180 : decode b_Mo_scan 180 = .ok (.getfield 58, 3) := by decide +kernel
theorem d_Mo_scan_183 : decode b_Mo_scan 183 = .ok (.imul, 1) := by decide +kernel
theorem d_Mo_scan_184 : decode b_Mo_scan 184 = .ok (.aload_n 0, 1) := by decide +kernel
theorem d_Mo_scan_185 : decode b_Mo_scan 185 = .ok (.aload_n 0, 1) := by decide +kernel
theorem d_Mo_scan_186 : decode b_Mo_scan 186 = .ok (.getfield 55, 3) := by decide +kernel
theorem d_Mo_scan_189 : decode b_Mo_scan 189 = .ok (.invokevirtual 51, 3) := by decide +kernel
theorem d_Mo_scan_192 : decode b_Mo_scan 192 = .ok (.iadd, 1) := by decide +kernel
theorem d_Mo_scan_193 : decode b_Mo_scan 193 = .ok (.bipush 48, 2) := by decide +kernel
theorem d_Mo_scan_195 : decode b_Mo_scan 195 = .ok (.isub, 1) := by decide +kernel
theorem d_Mo_scan_196 : decode b_Mo_scan 196 = .ok (.goto 4, 3) := by decide +kernel
theorem d_Mo_scan_199 : decode b_Mo_scan 199 = .ok (.iconst 0, 1) := by decide +kernel
theorem d_Mo_scan_200 : decode b_Mo_scan 200 = .ok (.putfield 58, 3) := by decide +kernel
theorem d_Mo_scan_203 : decode b_Mo_scan 203 = .ok (.aload_n 0, 1) := by decide +kernel
theorem d_Mo_scan_204 : decode b_Mo_scan 204 = .ok (.dup, 1) := by decide +kernel
theorem d_Mo_scan_205 : decode b_Mo_scan 205 = .ok (.getfield 55, 3) := by decide +kernel
theorem d_Mo_scan_208 : decode b_Mo_scan 208 = .ok (.iconst 1, 1) := by decide +kernel
theorem d_Mo_scan_209 : decode b_Mo_scan 209 = .ok (.iadd, 1) := by decide +kernel
theorem d_Mo_scan_210 : decode b_Mo_scan 210 = .ok (.putfield 55, 3) := by decide +kernel
theorem d_Mo_scan_213 : decode b_Mo_scan 213 = .ok (.goto (-64), 3) := by decide +kernel
theorem d_Mo_scan_216 : decode b_Mo_scan 216 = .ok (.aload_n 0, 1) := by decide +kernel
theorem d_Mo_scan_217 : decode b_Mo_scan 217 = .ok (.aload_n 0, 1) := by decide +kernel
theorem d_Mo_scan_218 : decode b_Mo_scan 218 = .ok (.getfield 55, 3) := by decide +kernel
theorem d_Mo_scan_221 : decode b_Mo_scan 221 = .ok (.aload_n 0, 1) := by decide +kernel
theorem d_Mo_scan_222 : decode b_Mo_scan 222 = .ok (.getfield 48, 3) := by decide +kernel
theorem d_Mo_scan_225 : decode b_Mo_scan 225 = .ok (.isub, 1) := by decide +kernel
theorem d_Mo_scan_226 : decode b_Mo_scan 226 = .ok (.iconst 3, 1) := by decide +kernel
theorem d_Mo_scan_227 : decode b_Mo_scan 227 = .ok (.if_icmp .le 7, 3) := by decide +kernel
theorem d_Mo_scan_230 : decode b_Mo_scan 230 = .ok (.iconst 4, 1) := by decide +kernel
theorem d_Mo_scan_231 : decode b_Mo_scan 231 = .ok (.goto 4, 3) := by decide +kernel
theorem d_Mo_scan_234 : decode b_Mo_scan 234 = .ok (.iconst 2, 1) := by decide +kernel
theorem d_Mo_scan_235 : decode b_Mo_scan 235 = .ok (.putfield 71, 3) := by decide +kernel
theorem d_Mo_scan_238 : decode b_Mo_scan 238 = .ok (.goto 21, 3) := by decide +kernel
theorem d_Mo_scan_241 : decode b_Mo_scan 241 = .ok (.aload_n 0, 1) := by decide +kernel
theorem d_Mo_scan_242 : decode b_Mo_scan 242 = .ok (.getfield 71, 3) := by decide +kernel
theorem d_Mo_scan_245 : decode b_Mo_scan 245 = .ok (.iconst 3, 1) := by decide +kernel
theorem d_Mo_scan_246 : decode b_Mo_scan 246 = .ok (.if_icmp .ne 13, 3) := by decide +kernel
theorem d_Mo_scan_249 : decode b_Mo_scan 249 = .ok (.aload_n 0, 1) := by decide +kernel
theorem d_Mo_scan_250 : decode b_Mo_scan 250 = .ok (.dup, 1) := by decide +kernel
theorem d_Mo_scan_251 : decode b_Mo_scan 251 = .ok (.getfield 55, 3) := by decide +kernel
theorem d_Mo_scan_254 : decode b_Mo_scan 254 = .ok (.iconst 1, 1) := by decide +kernel
theorem d_Mo_scan_255 : decode b_Mo_scan 255 = .ok (.iadd, 1) := by decide +kernel
theorem d_Mo_scan_256 : decode b_Mo_scan 256 = .ok (.putfield 55, 3) := by decide +kernel
theorem d_Mo_scan_259 : decode b_Mo_scan 259 = .ok (.return_, 1) := by decide +kernel
theorem d_Mo_isIt_0 : decode b_Mo_isIt 0 = .ok (.aload_n 0, 1) := by decide +kernel
theorem d_Mo_isIt_1 : decode b_Mo_isIt 1 = .ok (.getfield 71, 3) := by decide +kernel
theorem d_Mo_isIt_4 : decode b_Mo_isIt 4 = .ok (.iconst 3, 1) := by decide +kernel
theorem d_Mo_isIt_5 : decode b_Mo_isIt 5 = .ok (.if_icmp .ne 20, 3) := by decide +kernel
theorem d_Mo_isIt_8 : decode b_Mo_isIt 8 = .ok (.aload_n 0, 1) := by decide +kernel
theorem d_Mo_isIt_9 : decode b_Mo_isIt 9 = .ok (.getfield 7, 3) := by decide +kernel
theorem d_Mo_isIt_12 : decode b_Mo_isIt 12 = .ok (.aload_n 0, 1) := by decide +kernel
theorem d_Mo_isIt_13 : decode b_Mo_isIt 13 = .ok (.getfield 48, 3) := by decide +kernel
theorem d_Mo_isIt_16 : decode b_Mo_isIt 16 = .ok (.caload, 1) := by decide +kernel
theorem d_Mo_isIt_17 : decode b_Mo_isIt 17 = .ok (.iload_n 1, 1) := by decide +kernel
theorem d_Mo_isIt_18 : decode b_Mo_isIt 18 = .ok (.if_icmp .ne 7, 3) := by decide +kernel
theorem d_Mo_isIt_21 : decode b_Mo_isIt 21 = .ok (.iconst 1, 1) := by decide +kernel
theorem d_Mo_isIt_22 : decode b_Mo_isIt 22 = .ok (.goto 4, 3) := by decide +kernel
theorem d_Mo_isIt_25 : decode b_Mo_isIt 25 = .ok (.iconst 0, 1) := by decide +kernel
theorem d_Mo_isIt_26 : decode b_Mo_isIt 26 = .ok (.ireturn, 1) := by decide +kernel
theorem d_Mo_isWord_0 : decode b_Mo_isWord 0 = .ok (.aload_n 0, 1) := by decide +kernel
theorem d_Mo_isWord_1 : decode b_Mo_isWord 1 = .ok (.getfield 71, 3) := by decide +kernel
theorem d_Mo_isWord_4 : decode b_Mo_isWord 4 = .ok (.iconst 1, 1) := by decide +kernel
theorem d_Mo_isWord_5 : decode b_Mo_isWord 5 = .ok (.if_icmp .ne 79, 3) := by decide +kernel
theorem d_Mo_isWord_8 : decode b_Mo_isWord 8 = .ok (.aload_n 0, 1) := by decide +kernel
theorem d_Mo_isWord_9 : decode b_Mo_isWord 9 = .ok (.getfield 55, 3) := by decide +kernel
theorem d_Mo_isWord_12 : decode b_Mo_isWord 12 = .ok (.aload_n 0, 1) := by decide +kernel
theorem d_Mo_isWord_13 : decode b_Mo_isWord 13 = .ok (.getfield 48, 3) := by decide +kernel
theorem d_Mo_isWord_16 : decode b_Mo_isWord 16 = .ok (.iconst 4, 1) := by decide +kernel
theorem d_Mo_isWord_17 : decode b_Mo_isWord 17 = .ok (.iadd, 1) := by decide +kernel
theorem d_Mo_isWord_18 : decode b_Mo_isWord 18 = .ok (.if_icmp .ne 66, 3) := by decide +kernel
theorem d_Mo_isWord_21 : decode b_Mo_isWord 21 = .ok (.aload_n 0, 1) := by decide +kernel
theorem d_Mo_isWord_22 : decode b_Mo_isWord 22 = .ok (.getfield 7, 3) := by decide +kernel
theorem d_Mo_isWord_25 : decode b_Mo_isWord 25 = .ok (.aload_n 0, 1) := by decide +kernel
theorem d_Mo_isWord_26 : decode b_Mo_isWord 26 = .ok (.getfield 48, 3) := by decide +kernel
theorem d_Mo_isWord_29 : decode b_Mo_isWord 29 = .ok (.caload, 1) := by decide +kernel
theorem d_Mo_isWord_30 : decode b_Mo_isWord 30 = .ok (.iload_n 1, 1) := by decide +kernel
theorem d_Mo_isWord_31 : decode b_Mo_isWord 31 = .ok (.if_icmp .ne 53, 3) := by decide +kernel
theorem d_Mo_isWord_34 : decode b_Mo_isWord 34 = .ok (.aload_n 0, 1) := by decide +kernel
theorem d_Mo_isWord_35 : decode b_Mo_isWord 35 = .ok (.getfield 7, 3) := by decide +kernel
theorem d_Mo_isWord_38 : decode b_Mo_isWord 38 = .ok (.aload_n 0, 1) := by decide +kernel
theorem d_Mo_isWord_39 : decode b_Mo_isWord 39 = .ok (.getfield 48, 3) := by decide +kernel
theorem d_Mo_isWord_42 : decode b_Mo_isWord 42 = .ok (.iconst 1, 1) := by decide +kernel
theorem d_Mo_isWord_43 : decode b_Mo_isWord 43 = .ok (.iadd, 1) := by decide +kernel
theorem d_Mo_isWord_44 : decode b_Mo_isWord 44 = .ok (.caload, 1) := by decide +kernel
theorem d_Mo_isWord_45 : decode b_Mo_isWord 45 = .ok (.iload_n 2, 1) := by decide +kernel
theorem d_Mo_isWord_46 : decode b_Mo_isWord 46 = .ok (.if_icmp .ne 38, 3) := by decide +kernel
theorem d_Mo_isWord_49 : decode b_Mo_isWord 49 = .ok (.aload_n 0, 1) := by decide +kernel
theorem d_Mo_isWord_50 : decode b_Mo_isWord 50 = .ok (.getfield 7, 3) := by decide +kernel
theorem d_Mo_isWord_53 : decode b_Mo_isWord 53 = .ok (.aload_n 0, 1) := by decide +kernel
theorem d_Mo_isWord_54 : decode b_Mo_isWord 54 = .ok (.getfield 48, 3) := by decide +kernel
theorem d_Mo_isWord_57 : decode b_Mo_isWord 57 = .ok (.iconst 2, 1) := by decide +kernel
theorem d_Mo_isWord_58 : decode b_Mo_isWord 58 = .ok (.iadd, 1) := by decide +kernel
theorem d_Mo_isWord_59 : decode b_Mo_isWord 59 = .ok (.caload, 1) := by decide +kernel
theorem d_Mo_isWord_60 : decode b_Mo_isWord 60 = .ok (.iload_n 3, 1) := by decide +kernel
theorem d_Mo_isWord_61 : decode b_Mo_isWord 61 = .ok (.if_icmp .ne 23, 3) := by decide +kernel
theorem d_Mo_isWord_64 : decode b_Mo_isWord 64 = .ok (.aload_n 0, 1) := by decide +kernel
theorem d_Mo_isWord_65 : decode b_Mo_isWord 65 = .ok (.getfield 7, 3) := by decide +kernel
theorem d_Mo_isWord_68 : decode b_Mo_isWord 68 = .ok (.aload_n 0, 1) := by decide +kernel
theorem d_Mo_isWord_69 : decode b_Mo_isWord 69 = .ok (.getfield 48, 3) := by decide +kernel
theorem d_Mo_isWord_72 : decode b_Mo_isWord 72 = .ok (.iconst 3, 1) := by decide +kernel
theorem d_Mo_isWord_73 : decode b_Mo_isWord 73 = .ok (.iadd, 1) := by decide +kernel
theorem d_Mo_isWord_74 : decode b_Mo_isWord 74 = .ok (.caload, 1) := by decide +kernel
theorem d_Mo_isWord_75 : decode b_Mo_isWord 75 = .ok (.iload 4, 2) := by decide +kernel
theorem d_Mo_isWord_77 : decode b_Mo_isWord 77 = .ok (.if_icmp .ne 7, 3) := by decide +kernel
theorem d_Mo_isWord_80 : decode b_Mo_isWord 80 = .ok (.iconst 1, 1) := by decide +kernel
theorem d_Mo_isWord_81 : decode b_Mo_isWord 81 = .ok (.goto 4, 3) := by decide +kernel
theorem d_Mo_isWord_84 : decode b_Mo_isWord 84 = .ok (.iconst 0, 1) := by decide +kernel
theorem d_Mo_isWord_85 : decode b_Mo_isWord 85 = .ok (.ireturn, 1) := by decide +kernel
theorem d_Mo_isRegister_0 : decode b_Mo_isRegister 0 = .ok (.aload_n 0, 1) := by decide +kernel
theorem d_Mo_isRegister_1 : decode b_Mo_isRegister 1 = .ok (.getfield 71, 3) := by decide +kernel
theorem d_Mo_isRegister_4 : decode b_Mo_isRegister 4 = .ok (.iconst 1, 1) := by decide +kernel
theorem d_Mo_isRegister_5 : decode b_Mo_isRegister 5 = .ok (.if_icmp .ne 20, 3) := by decide +kernel
theorem d_Mo_isRegister_8 : decode b_Mo_isRegister 8 = .ok (.aload_n 0, 1) := by decide +kernel
theorem d_Mo_isRegister_9 : decode b_Mo_isRegister 9 = .ok (.getfield 55, 3) := by decide +kernel
theorem d_Mo_isRegister_12 : decode b_Mo_isRegister 12 = .ok (.aload_n 0, 1) := by decide +kernel
theorem d_Mo_isRegister_13 : decode b_Mo_isRegister 13 = .ok (.getfield 48, 3) := by decide +kernel
theorem d_Mo_isRegister_16 : decode b_Mo_isRegister 16 = .ok (.iconst 1, 1) := by decide +kernel
theorem d_Mo_isRegister_17 : decode b_Mo_isRegister 17 = .ok (.iadd, 1) := by decide +kernel
theorem d_Mo_isRegister_18 : decode b_Mo_isRegister 18 = .ok (.if_icmp .ne 7, 3) := by decide +kernel
theorem d_Mo_isRegister_21 : decode b_Mo_isRegister 21 = .ok (.iconst 1, 1) := by decide +kernel
theorem d_Mo_isRegister_22 : decode b_Mo_isRegister 22 = .ok (.goto 4, 3) := by decide +kernel
theorem d_Mo_isRegister_25 : decode b_Mo_isRegister 25 = .ok (.iconst 0, 1) := by decide +kernel
theorem d_Mo_isRegister_26 : decode b_Mo_isRegister 26 = .ok (.ireturn, 1) := by decide +kernel
theorem d_Mo_put_0 : decode b_Mo_put 0 = .ok (.aload_n 0, 1) := by decide +kernel
theorem d_Mo_put_1 : decode b_Mo_put 1 = .ok (.getfield 21, 3) := by decide +kernel
theorem d_Mo_put_4 : decode b_Mo_put 4 = .ok (.bipush 6, 2) := by decide +kernel
theorem d_Mo_put_6 : decode b_Mo_put 6 = .ok (.aload_n 0, 1) := by decide +kernel
theorem d_Mo_put_7 : decode b_Mo_put 7 = .ok (.getfield 74, 3) := by decide +kernel
theorem d_Mo_put_10 : decode b_Mo_put 10 = .ok (.imul, 1) := by decide +kernel
theorem d_Mo_put_11 : decode b_Mo_put 11 = .ok (.iload_n 1, 1) := by decide +kernel
theorem d_Mo_put_12 : decode b_Mo_put 12 = .ok (.iadd, 1) := by decide +kernel
theorem d_Mo_put_13 : decode b_Mo_put 13 = .ok (.iload_n 2, 1) := by decide +kernel
theorem d_Mo_put_14 : decode b_Mo_put 14 = .ok (.iastore, 1) := by decide +kernel
theorem d_Mo_put_15 : decode b_Mo_put 15 = .ok (.return_, 1) := by decide +kernel
theorem d_Mo_start_0 : decode b_Mo_start 0 = .ok (.iconst 0, 1) := by decide +kernel
theorem d_Mo_start_1 : decode b_Mo_start 1 = .ok (.istore_n 1, 1) := by decide +kernel
theorem d_Mo_start_2 : decode b_Mo_start 2 = .ok (.iload_n 1, 1) := by decide +kernel
theorem d_Mo_start_3 : decode b_Mo_start 3 = .ok (.bipush 6, 2) := by decide +kernel
theorem d_Mo_start_5 : decode b_Mo_start 5 = .ok (.if_icmp .ge 15, 3) := by decide +kernel
theorem d_Mo_start_8 : decode b_Mo_start 8 = .ok (.aload_n 0, 1) := by decide +kernel
theorem d_Mo_start_9 : decode b_Mo_start 9 = .ok (.iload_n 1, 1) := by decide +kernel
theorem d_Mo_start_10 : decode b_Mo_start 10 = .ok (.iconst 0, 1) := by decide +kernel
theorem d_Mo_start_11 : decode b_Mo_start 11 = .ok (.invokevirtual 77, 3) := by decide +kernel
theorem d_Mo_start_14 : decode b_Mo_start 14 = .ok (.iinc 1 1, 3) := by decide +kernel
theorem d_Mo_start_17 : decode b_Mo_start 17 = .ok (.goto (-15), 3) := by decide +kernel
theorem d_Mo_start_20 : decode b_Mo_start 20 = .ok (.aload_n 0, 1) := by decide +kernel
theorem d_Mo_start_21 : decode b_Mo_start 21 = .ok (.invokevirtual 81, 3) := by decide +kernel
theorem d_Mo_start_24 : decode b_Mo_start 24 = .ok (.ifCond .eq 22, 3) := by decide +kernel
theorem d_Mo_start_27 : decode b_Mo_start 27 = .ok (.aload_n 0, 1) := by decide +kernel
theorem d_Mo_start_28 : decode b_Mo_start 28 = .ok (.iconst 1, 1) := by decide +kernel
theorem d_Mo_start_29 : decode b_Mo_start 29 = .ok (.aload_n 0, 1) := by decide +kernel
theorem d_Mo_start_30 : decode b_Mo_start 30 = .ok (.getfield 7, 3) := by decide +kernel
theorem d_Mo_start_33 : decode b_Mo_start 33 = .ok (.aload_n 0, 1) := by decide +kernel
theorem d_Mo_start_34 : decode b_Mo_start 34 = .ok (.getfield 48, 3) := by decide +kernel
theorem d_Mo_start_37 : decode b_Mo_start 37 = .ok (.caload, 1) := by decide +kernel
theorem d_Mo_start_38 : decode b_Mo_start 38 = .ok (.bipush 97, 2) := by decide +kernel
theorem d_Mo_start_40 : decode b_Mo_start 40 = .ok (.isub, 1) := by decide +kernel
theorem d_Mo_start_41 : decode b_Mo_start 41 = .ok (.invokevirtual 77, 3) := by decide +kernel
theorem d_Mo_start_44 : decode b_Mo_start 44 = .ok (.iconst 1, 1) := by decide +kernel
theorem d_Mo_start_45 : decode b_Mo_start 45 = .ok (.ireturn, 1) := by decide +kernel
theorem d_Mo_start_46 : decode b_Mo_start 46 = .ok (.aload_n 0, 1) := by decide +kernel
theorem d_Mo_start_47 : decode b_Mo_start 47 = .ok (.bipush 111, 2) := by decide +kernel
theorem d_Mo_start_49 : decode b_Mo_start 49 = .ok (.bipush 112, 2) := by decide +kernel
theorem d_Mo_start_51 : decode b_Mo_start 51 = .ok (.bipush 101, 2) := by decide +kernel
theorem d_Mo_start_53 : decode b_Mo_start 53 = .ok (.bipush 110, 2) := by decide +kernel
theorem d_Mo_start_55 : decode b_Mo_start 55 = .ok (.invokevirtual 85, 3) := by decide +kernel
theorem d_Mo_start_58 : decode b_Mo_start 58 = .ok (.ifCond .eq 37, 3) := by decide +kernel
theorem d_Mo_start_61 : decode b_Mo_start 61 = .ok (.aload_n 0, 1) := by decide +kernel
theorem d_Mo_start_62 : decode b_Mo_start 62 = .ok (.iconst 0, 1) := by decide +kernel
theorem d_Mo_start_63 : decode b_Mo_start 63 = .ok (.bipush 8, 2) := by decide +kernel
theorem d_Mo_start_65 : decode b_Mo_start 65 = .ok (.invokevirtual 77, 3) := by decide +kernel
theorem d_Mo_start_68 : decode b_Mo_start 68 = .ok (.aload_n 0, 1) := by decide +kernel
theorem d_Mo_start_69 : decode b_Mo_start 69 = .ok (.dup, 1) := by decide +kernel
theorem d_Mo_start_70 : decode b_Mo_start 70 = .ok (.getfield 89, 3) := by decide +kernel
theorem d_Mo_start_73 : decode b_Mo_start 73 = .ok (.iconst 1, 1) := by decide +kernel
theorem d_Mo_start_74 : decode b_Mo_start 74 = .ok (.iadd, 1) := by decide +kernel
theorem d_Mo_start_75 : decode b_Mo_start 75 = .ok (.putfield 89, 3) := by decide +kernel
theorem d_Mo_start_78 : decode b_Mo_start 78 = .ok (.aload_n 0, 1) := by decide +kernel
theorem d_Mo_start_79 : decode b_Mo_start 79 = .ok (.getfield 89, 3) := by decide +kernel
theorem d_Mo_start_82 : decode b_Mo_start 82 = .ok (.bipush 16, 2) := by decide +kernel
theorem d_Mo_start_84 : decode b_Mo_start 84 = .ok (.if_icmp .le 8, 3) := by decide +kernel
theorem d_Mo_start_87 : decode b_Mo_start 87 = .ok (.bipush 16, 2) := by decide +kernel
theorem d_Mo_start_89 : decode b_Mo_start 89 = .ok (.goto 5, 3) := by decide +kernel
theorem d_Mo_start_92 : decode b_Mo_start 92 = .ok (.bipush 14, 2) := by decide +kernel
theorem d_Mo_start_94 : decode b_Mo_start 94 = .ok (.ireturn, 1) := by decide +kernel
theorem d_Mo_start_95 : decode b_Mo_start 95 = .ok (.aload_n 0, 1) := by decide +kernel
theorem d_Mo_start_96 : decode b_Mo_start 96 = .ok (.bipush 115, 2) := by decide +kernel
theorem d_Mo_start_98 : decode b_Mo_start 98 = .ok (.bipush 111, 2) := by decide +kernel
theorem d_Mo_start_100 : decode b_Mo_start 100 = .ok (.bipush 114, 2) := by decide +kernel
theorem d_Mo_start_102 : decode b_Mo_start 102 = .ok (.bipush 116, 2) := by decide +kernel
theorem d_Mo_start_104 : decode b_Mo_start 104 = .ok (.invokevirtual 85, 3) := by decide +kernel
theorem d_Mo_start_107 : decode b_Mo_start 107 = .ok (.istore_n 1, 1) := by decide +kernel
theorem d_Mo_start_108 : decode b_Mo_start 108 = .ok (.aload_n 0, 1) := by decide +kernel
theorem d_Mo_start_109 : decode b_Mo_start 109 = .ok (.iconst 0, 1) := by decide +kernel
theorem d_Mo_start_110 : decode b_Mo_start 110 = .ok (.iload_n 1, 1) := by decide +kernel
theorem d_Mo_start_111 : decode b_Mo_start 111 = .ok (.ifCond .eq 8, 3) := by decide +kernel
theorem d_Mo_start_114 : decode b_Mo_start 114 = .ok (.bipush 6, 2) := by decide +kernel
theorem d_Mo_start_116 : decode b_Mo_start 116 = .ok (.goto 5, 3) := by decide +kernel
theorem d_Mo_start_119 : decode b_Mo_start 119 = .ok (.bipush 7, 2) := by decide +kernel
theorem d_Mo_start_121 : decode b_Mo_start 121 = .ok (.invokevirtual 77, 3) := by decide +kernel
theorem d_Mo_start_124 : decode b_Mo_start 124 = .ok (.iload_n 1, 1) := by decide +kernel
theorem d_Mo_start_125 : decode b_Mo_start 125 = .ok (.ifCond .ne 18, 3) := by decide +kernel
theorem d_Mo_start_128 : decode b_Mo_start 128 = .ok (.aload_n 0, 1) := by decide +kernel
theorem d_Mo_start_129 : decode b_Mo_start 129 = .ok (.bipush 115, 2) := by decide +kernel
theorem d_Mo_start_131 : decode b_Mo_start 131 = .ok (.bipush 117, 2) := by decide +kernel
theorem d_Mo_start_133 : decode b_Mo_start 133 = .ok (.bipush 109, 2) := by decide +kernel
theorem d_Mo_start_135 : decode b_Mo_start 135 = .ok (.bipush 115, 2) := by decide +kernel
theorem d_Mo_start_137 : decode b_Mo_start 137 = .ok (.invokevirtual 85, 3) := by decide +kernel
theorem d_Mo_start_140 : decode b_Mo_start 140 = .ok (.ifCond .eq 8, 3) := by decide +kernel
theorem d_Mo_start_143 : decode b_Mo_start 143 = .ok (.bipush 12, 2) := by decide +kernel
theorem d_Mo_start_145 : decode b_Mo_start 145 = .ok (.goto 5, 3) := by decide +kernel
theorem d_Mo_start_148 : decode b_Mo_start 148 = .ok (.bipush 16, 2) := by decide +kernel
theorem d_Mo_start_150 : decode b_Mo_start 150 = .ok (.ireturn, 1) := by decide +kernel
theorem d_Mo_value_0 : decode b_Mo_value 0 = .ok (.aload_n 0, 1) := by decide +kernel
theorem d_Mo_value_1 : decode b_Mo_value 1 = .ok (.bipush 36, 2) := by decide +kernel
theorem d_Mo_value_3 : decode b_Mo_value 3 = .ok (.invokevirtual 92, 3) := by decide +kernel
theorem d_Mo_value_6 : decode b_Mo_value 6 = .ok (.ifCond .eq 5, 3) := by decide +kernel
theorem d_Mo_value_9 : decode b_Mo_value 9 = .ok (.iload_n 2, 1) := by decide +kernel
theorem d_Mo_value_10 : decode b_Mo_value 10 = .ok (.ireturn, 1) := by decide +kernel
theorem d_Mo_value_11 : decode b_Mo_value 11 = .ok (.aload_n 0, 1) := by decide +kernel
theorem d_Mo_value_12 : decode b_Mo_value 12 = .ok (.iload_n 1, 1) := by decide +kernel
theorem d_Mo_value_13 : decode b_Mo_value 13 = .ok (.aload_n 0, 1) := by decide +kernel
theorem d_Mo_value_14 : decode b_Mo_value 14 = .ok (.invokevirtual 81, 3) := by decide +kernel
theorem d_Mo_value_17 : decode b_Mo_value 17 = .ok (.ifCond .eq 18, 3) := by decide +kernel
theorem d_Mo_value_20 : decode b_Mo_value 20 = .ok (.aload_n 0, 1) := by decide +kernel
theorem d_Mo_value_21 : decode b_Mo_value 21 = .ok (.getfield 7, 3) := by decide +kernel
theorem d_Mo_value_24 : decode b_Mo_value 24 = .ok (.aload_n 0, 1) := by decide +kernel
theorem d_Mo_value_25 : decode b_Mo_value 25 = .ok (.getfield 48, 3) := by decide +kernel
theorem d_Mo_value_28 : decode b_Mo_value 28 = .ok (.caload, 1) := by decide +kernel
theorem d_Mo_value_29 : decode b_Mo_value 29 = .ok (.bipush 97, 2) := by decide +kernel
theorem d_Mo_value_31 : decode b_Mo_value 31 = .ok (.isub, 1) := by decide +kernel
theorem d_Mo_value_32 : decode b_Mo_value 32 = .ok (.goto 11, 3) := by decide +kernel
theorem d_Mo_value_35 : decode b_Mo_value 35 = .ok (.sipush 1000, 3) := by decide +kernel
theorem d_Mo_value_38 : decode b_Mo_value 38 = .ok (.aload_n 0, 1) := by decide +kernel
theorem d_Mo_value_39 : decode b_Mo_value 39 = .ok (.getfield 58, 3) := by decide +kernel
theorem d_Mo_value_42 : decode b_Mo_value 42 = .ok (.iadd, 1) := by decide +kernel
theorem d_Mo_value_43 : decode b_Mo_value 43 = .ok (.invokevirtual 77, 3) := by decide +kernel
theorem d_Mo_value_46 : decode b_Mo_value 46 = .ok (.aload_n 0, 1) := by decide +kernel
theorem d_Mo_value_47 : decode b_Mo_value 47 = .ok (.invokevirtual 81, 3) := by decide +kernel
theorem d_Mo_value_50 : decode b_Mo_value 50 = .ok (.ifCond .ne 11, 3) := by decide +kernel
theorem d_Mo_value_53 : decode b_Mo_value 53 = .ok (.aload_n 0, 1) := by decide +kernel
theorem d_Mo_value_54 : decode b_Mo_value 54 = .ok (.getfield 71, 3) := by decide +kernel
theorem d_Mo_value_57 : decode b_Mo_value 57 = .ok (.iconst 2, 1) := by decide +kernel
theorem d_Mo_value_58 : decode b_Mo_value 58 = .ok (.if_icmp .ne 7, 3) := by decide +kernel
theorem d_Mo_value_61 : decode b_Mo_value 61 = .ok (.iload_n 3, 1) := by decide +kernel
theorem d_Mo_value_62 : decode b_Mo_value 62 = .ok (.goto 5, 3) := by decide +kernel
theorem d_Mo_value_65 : decode b_Mo_value 65 = .ok (.bipush 16, 2) := by decide +kernel
theorem d_Mo_value_67 : decode b_Mo_value 67 = .ok (.ireturn, 1) := by decide +kernel
theorem d_Mo_inputOf_0 : decode b_Mo_inputOf 0 = .ok (.aload_n 0, 1) := by decide +kernel
theorem d_Mo_inputOf_1 : decode b_Mo_inputOf 1 = .ok (.iload_n 1, 1) := by decide +kernel
theorem d_Mo_inputOf_2 : decode b_Mo_inputOf 2 = .ok (.bipush 100, 2) := by decide +kernel
theorem d_Mo_inputOf_4 : decode b_Mo_inputOf 4 = .ok (.aload_n 0, 1) := by decide +kernel
theorem d_Mo_inputOf_5 : decode b_Mo_inputOf 5 = .ok (.getfield 58, 3) := by decide +kernel
theorem d_Mo_inputOf_8 : decode b_Mo_inputOf 8 = .ok (.iadd, 1) := by decide +kernel
theorem d_Mo_inputOf_9 : decode b_Mo_inputOf 9 = .ok (.invokevirtual 77, 3) := by decide +kernel
theorem d_Mo_inputOf_12 : decode b_Mo_inputOf 12 = .ok (.aload_n 0, 1) := by decide +kernel
theorem d_Mo_inputOf_13 : decode b_Mo_inputOf 13 = .ok (.getfield 71, 3) := by decide +kernel
theorem d_Mo_inputOf_16 : decode b_Mo_inputOf 16 = .ok (.iconst 2, 1) := by decide +kernel
theorem d_Mo_inputOf_17 : decode b_Mo_inputOf 17 = .ok (.if_icmp .ne 16, 3) := by decide +kernel
theorem d_Mo_inputOf_20 : decode b_Mo_inputOf 20 = .ok (.aload_n 0, 1) := by decide +kernel
theorem d_Mo_inputOf_21 : decode b_Mo_inputOf 21 = .ok (.getfield 58, 3) := by decide +kernel
theorem d_Mo_inputOf_24 : decode b_Mo_inputOf 24 = .ok (.bipush 8, 2) := by decide +kernel
theorem d_Mo_inputOf_26 : decode b_Mo_inputOf 26 = .ok (.if_icmp .ge 7, 3) := by decide +kernel
theorem d_Mo_inputOf_29 : decode b_Mo_inputOf 29 = .ok (.iload_n 2, 1) := by decide +kernel
theorem d_Mo_inputOf_30 : decode b_Mo_inputOf 30 = .ok (.goto 5, 3) := by decide +kernel
theorem d_Mo_inputOf_33 : decode b_Mo_inputOf 33 = .ok (.bipush 16, 2) := by decide +kernel
theorem d_Mo_inputOf_35 : decode b_Mo_inputOf 35 = .ok (.ireturn, 1) := by decide +kernel
theorem d_Mo_compared_0 : decode b_Mo_compared 0 = .ok (.aload_n 0, 1) := by decide +kernel
theorem d_Mo_compared_1 : decode b_Mo_compared 1 = .ok (.dup, 1) := by decide +kernel
theorem d_Mo_compared_2 : decode b_Mo_compared 2 = .ok (.getfield 95, 3) := by decide +kernel
theorem d_Mo_compared_5 : decode b_Mo_compared 5 = .ok (.iload_n 1, 1) := by decide +kernel
theorem d_Mo_compared_6 : decode b_Mo_compared 6 = .ok (.iadd, 1) := by decide +kernel
theorem d_Mo_compared_7 : decode b_Mo_compared 7 = .ok (.putfield 95, 3) := by decide +kernel
theorem d_Mo_compared_10 : decode b_Mo_compared 10 = .ok (.aload_n 0, 1) := by decide +kernel
theorem d_Mo_compared_11 : decode b_Mo_compared 11 = .ok (.getfield 95, 3) := by decide +kernel
theorem d_Mo_compared_14 : decode b_Mo_compared 14 = .ok (.bipush 12, 2) := by decide +kernel
theorem d_Mo_compared_16 : decode b_Mo_compared 16 = .ok (.if_icmp .le 8, 3) := by decide +kernel
theorem d_Mo_compared_19 : decode b_Mo_compared 19 = .ok (.bipush 16, 2) := by decide +kernel
theorem d_Mo_compared_21 : decode b_Mo_compared 21 = .ok (.goto 4, 3) := by decide +kernel
theorem d_Mo_compared_24 : decode b_Mo_compared 24 = .ok (.iload_n 2, 1) := by decide +kernel
theorem d_Mo_compared_25 : decode b_Mo_compared 25 = .ok (.ireturn, 1) := by decide +kernel
theorem d_Mo_afterFirst_0 : decode b_Mo_afterFirst 0 = .ok (.aload_n 0, 1) := by decide +kernel
theorem d_Mo_afterFirst_1 : decode b_Mo_afterFirst 1 = .ok (.bipush 43, 2) := by decide +kernel
theorem d_Mo_afterFirst_3 : decode b_Mo_afterFirst 3 = .ok (.invokevirtual 92, 3) := by decide +kernel
theorem d_Mo_afterFirst_6 : decode b_Mo_afterFirst 6 = .ok (.ifCond .eq 7, 3) := by decide +kernel
theorem d_Mo_afterFirst_9 : decode b_Mo_afterFirst 9 = .ok (.iconst 1, 1) := by decide +kernel
theorem d_Mo_afterFirst_10 : decode b_Mo_afterFirst 10 = .ok (.goto 56, 3) := by decide +kernel
theorem d_Mo_afterFirst_13 : decode b_Mo_afterFirst 13 = .ok (.aload_n 0, 1) := by decide +kernel
theorem d_Mo_afterFirst_14 : decode b_Mo_afterFirst 14 = .ok (.bipush 45, 2) := by decide +kernel
theorem d_Mo_afterFirst_16 : decode b_Mo_afterFirst 16 = .ok (.invokevirtual 92, 3) := by decide +kernel
theorem d_Mo_afterFirst_19 : decode b_Mo_afterFirst 19 = .ok (.ifCond .eq 7, 3) := by decide +kernel
theorem d_Mo_afterFirst_22 : decode b_Mo_afterFirst 22 = .ok (.iconst 2, 1) := by decide +kernel
theorem d_Mo_afterFirst_23 : decode b_Mo_afterFirst 23 = .ok (.goto 43, 3) := by decide +kernel
theorem d_Mo_afterFirst_26 : decode b_Mo_afterFirst 26 = .ok (.aload_n 0, 1) := by decide +kernel
theorem d_Mo_afterFirst_27 : decode b_Mo_afterFirst 27 = .ok (.bipush 42, 2) := by decide +kernel
theorem d_Mo_afterFirst_29 : decode b_Mo_afterFirst 29 = .ok (.invokevirtual 92, 3) := by decide +kernel
theorem d_Mo_afterFirst_32 : decode b_Mo_afterFirst 32 = .ok (.ifCond .eq 7, 3) := by decide +kernel
theorem d_Mo_afterFirst_35 : decode b_Mo_afterFirst 35 = .ok (.iconst 3, 1) := by decide +kernel
theorem d_Mo_afterFirst_36 : decode b_Mo_afterFirst 36 = .ok (.goto 30, 3) := by decide +kernel
theorem d_Mo_afterFirst_39 : decode b_Mo_afterFirst 39 = .ok (.aload_n 0, 1) := by decide +kernel
theorem d_Mo_afterFirst_40 : decode b_Mo_afterFirst 40 = .ok (.bipush 60, 2) := by decide +kernel
theorem d_Mo_afterFirst_42 : decode b_Mo_afterFirst 42 = .ok (.invokevirtual 92, 3) := by decide +kernel
theorem d_Mo_afterFirst_45 : decode b_Mo_afterFirst 45 = .ok (.ifCond .eq 7, 3) := by decide +kernel
theorem d_Mo_afterFirst_48 : decode b_Mo_afterFirst 48 = .ok (.iconst 4, 1) := by decide +kernel
theorem d_Mo_afterFirst_49 : decode b_Mo_afterFirst 49 = .ok (.goto 17, 3) := by decide +kernel
theorem d_Mo_afterFirst_52 : decode b_Mo_afterFirst 52 = .ok (.aload_n 0, 1) := by decide +kernel
theorem d_Mo_afterFirst_53 : decode b_Mo_afterFirst 53 = .ok (.bipush 63, 2) := by decide +kernel
theorem d_Mo_afterFirst_55 : decode b_Mo_afterFirst 55 = .ok (.invokevirtual 92, 3) := by decide +kernel
theorem d_Mo_afterFirst_58 : decode b_Mo_afterFirst 58 = .ok (.ifCond .eq 7, 3) := by decide +kernel
theorem d_Mo_afterFirst_61 : decode b_Mo_afterFirst 61 = .ok (.iconst 5, 1) := by decide +kernel
theorem d_Mo_afterFirst_62 : decode b_Mo_afterFirst 62 = .ok (.goto 4, 3) := by decide +kernel
theorem d_Mo_afterFirst_65 : decode b_Mo_afterFirst 65 = .ok (.iconst 0, 1) := by decide +kernel
theorem d_Mo_afterFirst_66 : decode b_Mo_afterFirst 66 = .ok (.istore_n 1, 1) := by decide +kernel
theorem d_Mo_afterFirst_67 : decode b_Mo_afterFirst 67 = .ok (.aload_n 0, 1) := by decide +kernel
theorem d_Mo_afterFirst_68 : decode b_Mo_afterFirst 68 = .ok (.iconst 0, 1) := by decide +kernel
theorem d_Mo_afterFirst_69 : decode b_Mo_afterFirst 69 = .ok (.iload_n 1, 1) := by decide +kernel
theorem d_Mo_afterFirst_70 : decode b_Mo_afterFirst 70 = .ok (.invokevirtual 77, 3) := by decide +kernel
theorem d_Mo_afterFirst_73 : decode b_Mo_afterFirst 73 = .ok (.iload_n 1, 1) := by decide +kernel
theorem d_Mo_afterFirst_74 : decode b_Mo_afterFirst 74 = .ok (.ifCond .ne 8, 3) := by decide +kernel
theorem d_Mo_afterFirst_77 : decode b_Mo_afterFirst 77 = .ok (.aload_n 0, 1) := by decide +kernel
theorem d_Mo_afterFirst_78 : decode b_Mo_afterFirst 78 = .ok (.invokevirtual 98, 3) := by decide +kernel
theorem d_Mo_afterFirst_81 : decode b_Mo_afterFirst 81 = .ok (.ireturn, 1) := by decide +kernel
theorem d_Mo_afterFirst_82 : decode b_Mo_afterFirst 82 = .ok (.iload_n 1, 1) := by decide +kernel
theorem d_Mo_afterFirst_83 : decode b_Mo_afterFirst 83 = .ok (.iconst 5, 1) := by decide +kernel
theorem d_Mo_afterFirst_84 : decode b_Mo_afterFirst 84 = .ok (.if_icmp .ne 13, 3) := by decide +kernel
theorem d_Mo_afterFirst_87 : decode b_Mo_afterFirst 87 = .ok (.aload_n 0, 1) := by decide +kernel
theorem d_Mo_afterFirst_88 : decode b_Mo_afterFirst 88 = .ok (.iconst 1, 1) := by decide +kernel
theorem d_Mo_afterFirst_89 : decode b_Mo_afterFirst 89 = .ok (.bipush 7, 2) := by decide +kernel
theorem d_Mo_afterFirst_91 : decode b_Mo_afterFirst 91 = .ok (.invokevirtual 102, 3) := by decide +kernel
theorem d_Mo_afterFirst_94 : decode b_Mo_afterFirst 94 = .ok (.goto 18, 3) := by decide +kernel
theorem d_Mo_afterFirst_97 : decode b_Mo_afterFirst 97 = .ok (.aload_n 0, 1) := by decide +kernel
theorem d_Mo_afterFirst_98 : decode b_Mo_afterFirst 98 = .ok (.iload_n 1, 1) := by decide +kernel
theorem d_Mo_afterFirst_99 : decode b_Mo_afterFirst 99 = .ok (.iconst 4, 1) := by decide +kernel
theorem d_Mo_afterFirst_100 : decode b_Mo_afterFirst 100 = .ok (.if_icmp .ne 7, 3) := by decide +kernel
theorem d_Mo_afterFirst_103 : decode b_Mo_afterFirst 103 = .ok (.iconst 1, 1) := by decide +kernel
theorem d_Mo_afterFirst_104 : decode b_Mo_afterFirst 104 = .ok (.goto 4, 3) := by decide +kernel
theorem d_Mo_afterFirst_107 : decode b_Mo_afterFirst 107 = .ok (.iconst 0, 1) := by decide +kernel
theorem d_Mo_afterFirst_108 : decode b_Mo_afterFirst 108 = .ok (.iconst 5, 1) := by decide +kernel
theorem d_Mo_afterFirst_109 : decode b_Mo_afterFirst 109 = .ok (.invokevirtual 102, 3) := by decide +kernel
theorem d_Mo_afterFirst_112 : decode b_Mo_afterFirst 112 = .ok (.ireturn, 1) := by decide +kernel
theorem d_Mo_after_0 : decode b_Mo_after 0 = .ok (.aload_n 0, 1) := by decide +kernel
theorem d_Mo_after_1 : decode b_Mo_after 1 = .ok (.getfield 71, 3) := by decide +kernel
theorem d_Mo_after_4 : decode b_Mo_after 4 = .ok (.ifCond .eq 12, 3) := by decide +kernel
theorem d_Mo_after_7 : decode b_Mo_after 7 = .ok (.aload_n 0, 1) := by decide +kernel
theorem d_Mo_after_8 : decode b_Mo_after 8 = .ok (.bipush 59, 2) := by decide +kernel
theorem d_Mo_after_10 : decode b_Mo_after 10 = .ok (.invokevirtual 92, 3) := by decide +kernel
theorem d_Mo_after_13 : decode b_Mo_after 13 = .ok (.ifCond .eq 27, 3) := by decide +kernel
theorem d_Mo_after_16 : decode b_Mo_after 16 = .ok (.aload_n 0, 1) := by decide +kernel
theorem d_Mo_after_17 : decode b_Mo_after 17 = .ok (.dup, 1) := by decide +kernel
theorem d_Mo_after_18 : decode b_Mo_after 18 = .ok (.getfield 74, 3) := by decide +kernel
theorem d_Mo_after_21 : decode b_Mo_after 21 = .ok (.iconst 1, 1) := by decide +kernel
theorem d_Mo_after_22 : decode b_Mo_after 22 = .ok (.iadd, 1) := by decide +kernel
theorem d_Mo_after_23 : decode b_Mo_after 23 = .ok (.putfield 74, 3) := by decide +kernel
theorem d_Mo_after_26 : decode b_Mo_after 26 = .ok (.aload_n 0, 1) := by decide +kernel
theorem d_Mo_after_27 : decode b_Mo_after 27 = .ok (.getfield 71, 3) := by decide +kernel
theorem d_Mo_after_30 : decode b_Mo_after 30 = .ok (.ifCond .ne 8, 3) := by decide +kernel
theorem d_Mo_after_33 : decode b_Mo_after 33 = .ok (.bipush 15, 2) := by decide +kernel
theorem d_Mo_after_35 : decode b_Mo_after 35 = .ok (.goto 4, 3) := by decide +kernel
theorem d_Mo_after_38 : decode b_Mo_after 38 = .ok (.iconst 0, 1) := by decide +kernel
theorem d_Mo_after_39 : decode b_Mo_after 39 = .ok (.ireturn, 1) := by decide +kernel
theorem d_Mo_after_40 : decode b_Mo_after 40 = .ok (.bipush 16, 2) := by decide +kernel
theorem d_Mo_after_42 : decode b_Mo_after 42 = .ok (.ireturn, 1) := by decide +kernel
theorem d_Mo_to_0 : decode b_Mo_to 0 = .ok (.aload_n 0, 1) := by decide +kernel
theorem d_Mo_to_1 : decode b_Mo_to 1 = .ok (.getfield 7, 3) := by decide +kernel
theorem d_Mo_to_4 : decode b_Mo_to 4 = .ok (.aload_n 0, 1) := by decide +kernel
theorem d_Mo_to_5 : decode b_Mo_to 5 = .ok (.getfield 48, 3) := by decide +kernel
theorem d_Mo_to_8 : decode b_Mo_to 8 = .ok (.caload, 1) := by decide +kernel
theorem d_Mo_to_9 : decode b_Mo_to 9 = .ok (.bipush 97, 2) := by decide +kernel
theorem d_Mo_to_11 : decode b_Mo_to 11 = .ok (.isub, 1) := by decide +kernel
theorem d_Mo_to_12 : decode b_Mo_to 12 = .ok (.aload_n 0, 1) := by decide +kernel
theorem d_Mo_to_13 : decode b_Mo_to 13 = .ok (.getfield 21, 3) := by decide +kernel
theorem d_Mo_to_16 : decode b_Mo_to 16 = .ok (.bipush 6, 2) := by decide +kernel
theorem d_Mo_to_18 : decode b_Mo_to 18 = .ok (.aload_n 0, 1) := by decide +kernel
theorem d_Mo_to_19 : decode b_Mo_to 19 = .ok (.getfield 74, 3) := by decide +kernel
theorem d_Mo_to_22 : decode b_Mo_to 22 = .ok (.imul, 1) := by decide +kernel
theorem d_Mo_to_23 : decode b_Mo_to 23 = .ok (.iconst 1, 1) := by decide +kernel
theorem d_Mo_to_24 : decode b_Mo_to 24 = .ok (.iadd, 1) := by decide +kernel
theorem d_Mo_to_25 : decode b_Mo_to 25 = .ok (.iaload, 1) := by decide +kernel
theorem d_Mo_to_26 : decode b_Mo_to 26 = .ok (.isub, 1) := by decide +kernel
theorem d_Mo_to_27 : decode b_Mo_to 27 = .ok (.istore_n 1, 1) := by decide +kernel
theorem d_Mo_to_28 : decode b_Mo_to 28 = .ok (.aload_n 0, 1) := by decide +kernel
theorem d_Mo_to_29 : decode b_Mo_to 29 = .ok (.invokevirtual 81, 3) := by decide +kernel
theorem d_Mo_to_32 : decode b_Mo_to 32 = .ok (.ifCond .eq 13, 3) := by decide +kernel
theorem d_Mo_to_35 : decode b_Mo_to 35 = .ok (.iload_n 1, 1) := by decide +kernel
theorem d_Mo_to_36 : decode b_Mo_to 36 = .ok (.iconst 1, 1) := by decide +kernel
theorem d_Mo_to_37 : decode b_Mo_to 37 = .ok (.if_icmp .lt 8, 3) := by decide +kernel
theorem d_Mo_to_40 : decode b_Mo_to 40 = .ok (.iload_n 1, 1) := by decide +kernel
theorem d_Mo_to_41 : decode b_Mo_to 41 = .ok (.iconst 4, 1) := by decide +kernel
theorem d_Mo_to_42 : decode b_Mo_to 42 = .ok (.if_icmp .le 6, 3) := by decide +kernel
theorem d_Mo_to_45 : decode b_Mo_to 45 = .ok (.bipush 16, 2) := by decide +kernel
theorem d_Mo_to_47 : decode b_Mo_to 47 = .ok (.ireturn, 1) := by decide +kernel
theorem d_Mo_to_48 : decode b_Mo_to 48 = .ok (.aload_n 0, 1) := by decide +kernel
theorem d_Mo_to_49 : decode b_Mo_to 49 = .ok (.iconst 5, 1) := by decide +kernel
theorem d_Mo_to_50 : decode b_Mo_to 50 = .ok (.aload_n 0, 1) := by decide +kernel
theorem d_Mo_to_51 : decode b_Mo_to 51 = .ok (.getfield 7, 3) := by decide +kernel
theorem d_Mo_to_54 : decode b_Mo_to 54 = .ok (.aload_n 0, 1) := by decide +kernel
theorem d_Mo_to_55 : decode b_Mo_to 55 = .ok (.getfield 48, 3) := by decide +kernel
theorem d_Mo_to_58 : decode b_Mo_to 58 = .ok (.caload, 1) := by decide +kernel
theorem d_Mo_to_59 : decode b_Mo_to 59 = .ok (.bipush 97, 2) := by decide +kernel
theorem d_Mo_to_61 : decode b_Mo_to 61 = .ok (.isub, 1) := by decide +kernel
theorem d_Mo_to_62 : decode b_Mo_to 62 = .ok (.invokevirtual 77, 3) := by decide +kernel
theorem d_Mo_to_65 : decode b_Mo_to 65 = .ok (.aload_n 0, 1) := by decide +kernel
theorem d_Mo_to_66 : decode b_Mo_to 66 = .ok (.aload_n 0, 1) := by decide +kernel
theorem d_Mo_to_67 : decode b_Mo_to 67 = .ok (.getfield 21, 3) := by decide +kernel
theorem d_Mo_to_70 : decode b_Mo_to 70 = .ok (.bipush 6, 2) := by decide +kernel
theorem d_Mo_to_72 : decode b_Mo_to 72 = .ok (.aload_n 0, 1) := by decide +kernel
theorem d_Mo_to_73 : decode b_Mo_to 73 = .ok (.getfield 74, 3) := by decide +kernel
theorem d_Mo_to_76 : decode b_Mo_to 76 = .ok (.imul, 1) := by decide +kernel
theorem d_Mo_to_77 : decode b_Mo_to 77 = .ok (.iaload, 1) := by decide +kernel
theorem d_Mo_to_78 : decode b_Mo_to 78 = .ok (.bipush 6, 2) := by decide +kernel
theorem d_Mo_to_80 : decode b_Mo_to 80 = .ok (.if_icmp .ne 13, 3) := by decide +kernel
theorem d_Mo_to_83 : decode b_Mo_to 83 = .ok (.iload_n 1, 1) := by decide +kernel
theorem d_Mo_to_84 : decode b_Mo_to 84 = .ok (.iload_n 1, 1) := by decide +kernel
theorem d_Mo_to_85 : decode b_Mo_to 85 = .ok (.iconst 1, 1) := by decide +kernel
theorem d_Mo_to_86 : decode b_Mo_to 86 = .ok (.iadd, 1) := by decide +kernel
theorem d_Mo_to_87 : decode b_Mo_to 87 = .ok (.imul, 1) := by decide +kernel
theorem d_Mo_to_88 : decode b_Mo_to 88 = .ok (.iconst 2, 1) := by decide +kernel
theorem d_Mo_to_89 : decode b_Mo_to 89 = .ok (.idiv, 1) := by decide +kernel
theorem d_Mo_to_90 : decode b_Mo_to 90 = .ok (.goto 4, 3) := by decide +kernel
theorem d_Mo_to_93 : decode b_Mo_to 93 = .ok (.iconst 0, 1) := by decide +kernel
theorem d_Mo_to_94 : decode b_Mo_to 94 = .ok (.bipush 15, 2) := by decide +kernel
theorem d_Mo_to_96 : decode b_Mo_to 96 = .ok (.invokevirtual 102, 3) := by decide +kernel
theorem d_Mo_to_99 : decode b_Mo_to 99 = .ok (.ireturn, 1) := by decide +kernel
theorem d_Mo_named_0 : decode b_Mo_named 0 = .ok (.aload_n 0, 1) := by decide +kernel
theorem d_Mo_named_1 : decode b_Mo_named 1 = .ok (.iconst 1, 1) := by decide +kernel
theorem d_Mo_named_2 : decode b_Mo_named 2 = .ok (.aload_n 0, 1) := by decide +kernel
theorem d_Mo_named_3 : decode b_Mo_named 3 = .ok (.invokevirtual 81, 3) := by decide +kernel
theorem d_Mo_named_6 : decode b_Mo_named 6 = .ok (.ifCond .eq 18, 3) := by decide +kernel
theorem d_Mo_named_9 : decode b_Mo_named 9 = .ok (.aload_n 0, 1) := by decide +kernel
theorem d_Mo_named_10 : decode b_Mo_named 10 = .ok (.getfield 7, 3) := by decide +kernel
theorem d_Mo_named_13 : decode b_Mo_named 13 = .ok (.aload_n 0, 1) := by decide +kernel
theorem d_Mo_named_14 : decode b_Mo_named 14 = .ok (.getfield 48, 3) := by decide +kernel
theorem d_Mo_named_17 : decode b_Mo_named 17 = .ok (.caload, 1) := by decide +kernel
theorem d_Mo_named_18 : decode b_Mo_named 18 = .ok (.bipush 97, 2) := by decide +kernel
theorem d_Mo_named_20 : decode b_Mo_named 20 = .ok (.isub, 1) := by decide +kernel
theorem d_Mo_named_21 : decode b_Mo_named 21 = .ok (.goto 4, 3) := by decide +kernel
theorem d_Mo_named_24 : decode b_Mo_named 24 = .ok (.iconst 0, 1) := by decide +kernel
theorem d_Mo_named_25 : decode b_Mo_named 25 = .ok (.invokevirtual 77, 3) := by decide +kernel
theorem d_Mo_named_28 : decode b_Mo_named 28 = .ok (.aload_n 0, 1) := by decide +kernel
theorem d_Mo_named_29 : decode b_Mo_named 29 = .ok (.invokevirtual 81, 3) := by decide +kernel
theorem d_Mo_named_32 : decode b_Mo_named 32 = .ok (.ifCond .eq 7, 3) := by decide +kernel
theorem d_Mo_named_35 : decode b_Mo_named 35 = .ok (.iload_n 1, 1) := by decide +kernel
theorem d_Mo_named_36 : decode b_Mo_named 36 = .ok (.goto 5, 3) := by decide +kernel
theorem d_Mo_named_39 : decode b_Mo_named 39 = .ok (.bipush 16, 2) := by decide +kernel
theorem d_Mo_named_41 : decode b_Mo_named 41 = .ok (.ireturn, 1) := by decide +kernel
theorem d_Mo_next_0 : decode b_Mo_next 0 = .ok (.iload_n 1, 1) := by decide +kernel
theorem d_Mo_next_1 : decode b_Mo_next 1 = .ok (.tableswitch 219 0 14 #[75, 80, 96, 104, 111, 116, 126, 134, 144, 152, 169, 179, 187, 194, 212], 75) := by decide +kernel
theorem d_Mo_next_76 : decode b_Mo_next 76 = .ok (.aload_n 0, 1) := by decide +kernel
theorem d_Mo_next_77 : decode b_Mo_next 77 = .ok (.invokevirtual 106, 3) := by decide +kernel
theorem d_Mo_next_80 : decode b_Mo_next 80 = .ok (.ireturn, 1) := by decide +kernel
theorem d_Mo_next_81 : decode b_Mo_next 81 = .ok (.aload_n 0, 1) := by decide +kernel
theorem d_Mo_next_82 : decode b_Mo_next 82 = .ok (.bipush 61, 2) := by decide +kernel
theorem d_Mo_next_84 : decode b_Mo_next 84 = .ok (.invokevirtual 92, 3) := by decide +kernel
theorem d_Mo_next_87 : decode b_Mo_next 87 = .ok (.ifCond .eq 7, 3) := by decide +kernel
theorem d_Mo_next_90 : decode b_Mo_next 90 = .ok (.iconst 2, 1) := by decide +kernel
theorem d_Mo_next_91 : decode b_Mo_next 91 = .ok (.goto 5, 3) := by decide +kernel
theorem d_Mo_next_94 : decode b_Mo_next 94 = .ok (.bipush 16, 2) := by decide +kernel
theorem d_Mo_next_96 : decode b_Mo_next 96 = .ok (.ireturn, 1) := by decide +kernel
theorem d_Mo_next_97 : decode b_Mo_next 97 = .ok (.aload_n 0, 1) := by decide +kernel
theorem d_Mo_next_98 : decode b_Mo_next 98 = .ok (.iconst 2, 1) := by decide +kernel
theorem d_Mo_next_99 : decode b_Mo_next 99 = .ok (.iconst 3, 1) := by decide +kernel
theorem d_Mo_next_100 : decode b_Mo_next 100 = .ok (.iconst 4, 1) := by decide +kernel
theorem d_Mo_next_101 : decode b_Mo_next 101 = .ok (.invokevirtual 109, 3) := by decide +kernel
theorem d_Mo_next_104 : decode b_Mo_next 104 = .ok (.ireturn, 1) := by decide +kernel
theorem d_Mo_next_105 : decode b_Mo_next 105 = .ok (.aload_n 0, 1) := by decide +kernel
theorem d_Mo_next_106 : decode b_Mo_next 106 = .ok (.iconst 2, 1) := by decide +kernel
theorem d_Mo_next_107 : decode b_Mo_next 107 = .ok (.iconst 4, 1) := by decide +kernel
theorem d_Mo_next_108 : decode b_Mo_next 108 = .ok (.invokevirtual 113, 3) := by decide +kernel
theorem d_Mo_next_111 : decode b_Mo_next 111 = .ok (.ireturn, 1) := by decide +kernel
theorem d_Mo_next_112 : decode b_Mo_next 112 = .ok (.aload_n 0, 1) := by decide +kernel
theorem d_Mo_next_113 : decode b_Mo_next 113 = .ok (.invokevirtual 116, 3) := by decide +kernel
theorem d_Mo_next_116 : decode b_Mo_next 116 = .ok (.ireturn, 1) := by decide +kernel
theorem d_Mo_next_117 : decode b_Mo_next 117 = .ok (.aload_n 0, 1) := by decide +kernel
theorem d_Mo_next_118 : decode b_Mo_next 118 = .ok (.iconst 3, 1) := by decide +kernel
theorem d_Mo_next_119 : decode b_Mo_next 119 = .ok (.bipush 6, 2) := by decide +kernel
theorem d_Mo_next_121 : decode b_Mo_next 121 = .ok (.bipush 15, 2) := by decide +kernel
theorem d_Mo_next_123 : decode b_Mo_next 123 = .ok (.invokevirtual 109, 3) := by decide +kernel
theorem d_Mo_next_126 : decode b_Mo_next 126 = .ok (.ireturn, 1) := by decide +kernel
theorem d_Mo_next_127 : decode b_Mo_next 127 = .ok (.aload_n 0, 1) := by decide +kernel
theorem d_Mo_next_128 : decode b_Mo_next 128 = .ok (.iconst 3, 1) := by decide +kernel
theorem d_Mo_next_129 : decode b_Mo_next 129 = .ok (.bipush 15, 2) := by decide +kernel
theorem d_Mo_next_131 : decode b_Mo_next 131 = .ok (.invokevirtual 113, 3) := by decide +kernel
theorem d_Mo_next_134 : decode b_Mo_next 134 = .ok (.ireturn, 1) := by decide +kernel
theorem d_Mo_next_135 : decode b_Mo_next 135 = .ok (.aload_n 0, 1) := by decide +kernel
theorem d_Mo_next_136 : decode b_Mo_next 136 = .ok (.iconst 3, 1) := by decide +kernel
theorem d_Mo_next_137 : decode b_Mo_next 137 = .ok (.bipush 8, 2) := by decide +kernel
theorem d_Mo_next_139 : decode b_Mo_next 139 = .ok (.bipush 9, 2) := by decide +kernel
theorem d_Mo_next_141 : decode b_Mo_next 141 = .ok (.invokevirtual 109, 3) := by decide +kernel
theorem d_Mo_next_144 : decode b_Mo_next 144 = .ok (.ireturn, 1) := by decide +kernel
theorem d_Mo_next_145 : decode b_Mo_next 145 = .ok (.aload_n 0, 1) := by decide +kernel
theorem d_Mo_next_146 : decode b_Mo_next 146 = .ok (.iconst 3, 1) := by decide +kernel
theorem d_Mo_next_147 : decode b_Mo_next 147 = .ok (.bipush 9, 2) := by decide +kernel
theorem d_Mo_next_149 : decode b_Mo_next 149 = .ok (.invokevirtual 113, 3) := by decide +kernel
theorem d_Mo_next_152 : decode b_Mo_next 152 = .ok (.ireturn, 1) := by decide +kernel
theorem d_Mo_next_153 : decode b_Mo_next 153 = .ok (.aload_n 0, 1) := by decide +kernel
theorem d_Mo_next_154 : decode b_Mo_next 154 = .ok (.bipush 58, 2) := by decide +kernel
theorem d_Mo_next_156 : decode b_Mo_next 156 = .ok (.invokevirtual 92, 3) := by decide +kernel
theorem d_Mo_next_159 : decode b_Mo_next 159 = .ok (.ifCond .eq 8, 3) := by decide +kernel
theorem d_Mo_next_162 : decode b_Mo_next 162 = .ok (.bipush 10, 2) := by decide +kernel
theorem d_Mo_next_164 : decode b_Mo_next 164 = .ok (.goto 5, 3) := by decide +kernel
theorem d_Mo_next_167 : decode b_Mo_next 167 = .ok (.bipush 16, 2) := by decide +kernel
theorem d_Mo_next_169 : decode b_Mo_next 169 = .ok (.ireturn, 1) := by decide +kernel
theorem d_Mo_next_170 : decode b_Mo_next 170 = .ok (.aload_n 0, 1) := by decide +kernel
theorem d_Mo_next_171 : decode b_Mo_next 171 = .ok (.iconst 4, 1) := by decide +kernel
theorem d_Mo_next_172 : decode b_Mo_next 172 = .ok (.bipush 11, 2) := by decide +kernel
theorem d_Mo_next_174 : decode b_Mo_next 174 = .ok (.bipush 15, 2) := by decide +kernel
theorem d_Mo_next_176 : decode b_Mo_next 176 = .ok (.invokevirtual 109, 3) := by decide +kernel
theorem d_Mo_next_179 : decode b_Mo_next 179 = .ok (.ireturn, 1) := by decide +kernel
theorem d_Mo_next_180 : decode b_Mo_next 180 = .ok (.aload_n 0, 1) := by decide +kernel
theorem d_Mo_next_181 : decode b_Mo_next 181 = .ok (.iconst 4, 1) := by decide +kernel
theorem d_Mo_next_182 : decode b_Mo_next 182 = .ok (.bipush 15, 2) := by decide +kernel
theorem d_Mo_next_184 : decode b_Mo_next 184 = .ok (.invokevirtual 113, 3) := by decide +kernel
theorem d_Mo_next_187 : decode b_Mo_next 187 = .ok (.ireturn, 1) := by decide +kernel
theorem d_Mo_next_188 : decode b_Mo_next 188 = .ok (.aload_n 0, 1) := by decide +kernel
theorem d_Mo_next_189 : decode b_Mo_next 189 = .ok (.bipush 13, 2) := by decide +kernel
theorem d_Mo_next_191 : decode b_Mo_next 191 = .ok (.invokevirtual 119, 3) := by decide +kernel
theorem d_Mo_next_194 : decode b_Mo_next 194 = .ok (.ireturn, 1) := by decide +kernel
theorem d_Mo_next_195 : decode b_Mo_next 195 = .ok (.aload_n 0, 1) := by decide +kernel
theorem d_Mo_next_196 : decode b_Mo_next 196 = .ok (.getfield 71, 3) := by decide +kernel
theorem d_Mo_next_199 : decode b_Mo_next 199 = .ok (.iconst 1, 1) := by decide +kernel
theorem d_Mo_next_200 : decode b_Mo_next 200 = .ok (.if_icmp .ne 10, 3) := by decide +kernel
theorem d_Mo_next_203 : decode b_Mo_next 203 = .ok (.aload_n 0, 1) := by decide +kernel
theorem d_Mo_next_204 : decode b_Mo_next 204 = .ok (.invokevirtual 123, 3) := by decide +kernel
theorem d_Mo_next_207 : decode b_Mo_next 207 = .ok (.goto 5, 3) := by decide +kernel
theorem d_Mo_next_210 : decode b_Mo_next 210 = .ok (.bipush 16, 2) := by decide +kernel
theorem d_Mo_next_212 : decode b_Mo_next 212 = .ok (.ireturn, 1) := by decide +kernel
theorem d_Mo_next_213 : decode b_Mo_next 213 = .ok (.aload_n 0, 1) := by decide +kernel
theorem d_Mo_next_214 : decode b_Mo_next 214 = .ok (.bipush 15, 2) := by decide +kernel
theorem d_Mo_next_216 : decode b_Mo_next 216 = .ok (.invokevirtual 119, 3) := by decide +kernel
theorem d_Mo_next_219 : decode b_Mo_next 219 = .ok (.ireturn, 1) := by decide +kernel
theorem d_Mo_next_220 : decode b_Mo_next 220 = .ok (.aload_n 0, 1) := by decide +kernel
theorem d_Mo_next_221 : decode b_Mo_next 221 = .ok (.invokevirtual 98, 3) := by decide +kernel
theorem d_Mo_next_224 : decode b_Mo_next 224 = .ok (.ireturn, 1) := by decide +kernel
theorem d_Mo_readText_0 : decode b_Mo_readText 0 = .ok (.aload_n 0, 1) := by decide +kernel
theorem d_Mo_readText_1 : decode b_Mo_readText 1 = .ok (.iconst 0, 1) := by decide +kernel
theorem d_Mo_readText_2 : decode b_Mo_readText 2 = .ok (.putfield 74, 3) := by decide +kernel
theorem d_Mo_readText_5 : decode b_Mo_readText 5 = .ok (.aload_n 0, 1) := by decide +kernel
theorem d_Mo_readText_6 : decode b_Mo_readText 6 = .ok (.iconst 0, 1) := by decide +kernel
theorem d_Mo_readText_7 : decode b_Mo_readText 7 = .ok (.putfield 95, 3) := by decide +kernel
theorem d_Mo_readText_10 : decode b_Mo_readText 10 = .ok (.aload_n 0, 1) := by decide +kernel
theorem d_Mo_readText_11 : decode b_Mo_readText 11 = .ok (.iconst 0, 1) := by decide +kernel
theorem d_Mo_readText_12 : decode b_Mo_readText 12 = .ok (.putfield 89, 3) := by decide +kernel
theorem d_Mo_readText_15 : decode b_Mo_readText 15 = .ok (.iconst 0, 1) := by decide +kernel
theorem d_Mo_readText_16 : decode b_Mo_readText 16 = .ok (.istore_n 1, 1) := by decide +kernel
theorem d_Mo_readText_17 : decode b_Mo_readText 17 = .ok (.iconst 0, 1) := by decide +kernel
theorem d_Mo_readText_18 : decode b_Mo_readText 18 = .ok (.istore_n 2, 1) := by decide +kernel
theorem d_Mo_readText_19 : decode b_Mo_readText 19 = .ok (.aload_n 0, 1) := by decide +kernel
theorem d_Mo_readText_20 : decode b_Mo_readText 20 = .ok (.iload_n 2, 1) := by decide +kernel
theorem d_Mo_readText_21 : decode b_Mo_readText 21 = .ok (.invokevirtual 126, 3) := by decide +kernel
theorem d_Mo_readText_24 : decode b_Mo_readText 24 = .ok (.aload_n 0, 1) := by decide +kernel
theorem d_Mo_readText_25 : decode b_Mo_readText 25 = .ok (.getfield 71, 3) := by decide +kernel
theorem d_Mo_readText_28 : decode b_Mo_readText 28 = .ok (.iconst 4, 1) := by decide +kernel
theorem d_Mo_readText_29 : decode b_Mo_readText 29 = .ok (.if_icmp .ne 8, 3) := by decide +kernel
theorem d_Mo_readText_32 : decode b_Mo_readText 32 = .ok (.bipush 16, 2) := by decide +kernel
theorem d_Mo_readText_34 : decode b_Mo_readText 34 = .ok (.goto 8, 3) := by decide +kernel
theorem d_Mo_readText_37 : decode b_Mo_readText 37 = .ok (.aload_n 0, 1) := by decide +kernel
theorem d_Mo_readText_38 : decode b_Mo_readText 38 = .ok (.iload_n 1, 1) := by decide +kernel
theorem d_Mo_readText_39 : decode b_Mo_readText 39 = .ok (.invokevirtual 130, 3) := by decide +kernel
theorem d_Mo_readText_42 : decode b_Mo_readText 42 = .ok (.istore_n 1, 1) := by decide +kernel
theorem d_Mo_readText_43 : decode b_Mo_readText 43 = .ok (.iload_n 1, 1) := by decide +kernel
theorem d_Mo_readText_44 : decode b_Mo_readText 44 = .ok (.bipush 16, 2) := by decide +kernel
theorem d_Mo_readText_46 : decode b_Mo_readText 46 = .ok (.if_icmp .ne 22, 3) := by decide +kernel
theorem d_Mo_readText_49 : decode b_Mo_readText 49 = .ok (.aload_n 0, 1) := by decide +kernel
theorem d_Mo_readText_50 : decode b_Mo_readText 50 = .ok (.getfield 71, 3) := by decide +kernel
theorem d_Mo_readText_53 : decode b_Mo_readText 53 = .ok (.ifCond .ne 10, 3) := by decide +kernel
theorem d_Mo_readText_56 : decode b_Mo_readText 56 = .ok (.aload_n 0, 1) := by decide +kernel
theorem d_Mo_readText_57 : decode b_Mo_readText 57 = .ok (.getfield 45, 3) := by decide +kernel
theorem d_Mo_readText_60 : decode b_Mo_readText 60 = .ok (.goto 7, 3) := by decide +kernel
theorem d_Mo_readText_63 : decode b_Mo_readText 63 = .ok (.aload_n 0, 1) := by decide +kernel
theorem d_Mo_readText_64 : decode b_Mo_readText 64 = .ok (.getfield 48, 3) := by decide +kernel
theorem d_Mo_readText_67 : decode b_Mo_readText 67 = .ok (.ireturn, 1) := by decide +kernel
theorem d_Mo_readText_68 : decode b_Mo_readText 68 = .ok (.aload_n 0, 1) := by decide +kernel
theorem d_Mo_readText_69 : decode b_Mo_readText 69 = .ok (.getfield 71, 3) := by decide +kernel
theorem d_Mo_readText_72 : decode b_Mo_readText 72 = .ok (.ifCond .ne 5, 3) := by decide +kernel
theorem d_Mo_readText_75 : decode b_Mo_readText 75 = .ok (.iconst (-1), 1) := by decide +kernel
theorem d_Mo_readText_76 : decode b_Mo_readText 76 = .ok (.ireturn, 1) := by decide +kernel
theorem d_Mo_readText_77 : decode b_Mo_readText 77 = .ok (.aload_n 0, 1) := by decide +kernel
theorem d_Mo_readText_78 : decode b_Mo_readText 78 = .ok (.getfield 55, 3) := by decide +kernel
theorem d_Mo_readText_81 : decode b_Mo_readText 81 = .ok (.istore_n 2, 1) := by decide +kernel
theorem d_Mo_readText_82 : decode b_Mo_readText 82 = .ok (.goto (-63), 3) := by decide +kernel
theorem d_Mo_compile_0 : decode b_Mo_compile 0 = .ok (.aload_n 0, 1) := by decide +kernel
theorem d_Mo_compile_1 : decode b_Mo_compile 1 = .ok (.aload_n 0, 1) := by decide +kernel
theorem d_Mo_compile_2 : decode b_Mo_compile 2 = .ok (.invokevirtual 133, 3) := by decide +kernel
theorem d_Mo_compile_5 : decode b_Mo_compile 5 = .ok (.putfield 13, 3) := by decide +kernel
theorem d_Mo_compile_8 : decode b_Mo_compile 8 = .ok (.aload_n 0, 1) := by decide +kernel
theorem d_Mo_compile_9 : decode b_Mo_compile 9 = .ok (.aload_n 0, 1) := by decide +kernel
theorem d_Mo_compile_10 : decode b_Mo_compile 10 = .ok (.getfield 13, 3) := by decide +kernel
theorem d_Mo_compile_13 : decode b_Mo_compile 13 = .ok (.ifCond .ge 7, 3) := by decide +kernel
theorem d_Mo_compile_16 : decode b_Mo_compile 16 = .ok (.iconst 0, 1) := by decide +kernel
theorem d_Mo_compile_17 : decode b_Mo_compile 17 = .ok (.goto 4, 3) := by decide +kernel
theorem d_Mo_compile_20 : decode b_Mo_compile 20 = .ok (.iconst 1, 1) := by decide +kernel
theorem d_Mo_compile_21 : decode b_Mo_compile 21 = .ok (.putfield 40, 3) := by decide +kernel
theorem d_Mo_compile_24 : decode b_Mo_compile 24 = .ok (.aload_n 0, 1) := by decide +kernel
theorem d_Mo_compile_25 : decode b_Mo_compile 25 = .ok (.getfield 40, 3) := by decide +kernel
theorem d_Mo_compile_28 : decode b_Mo_compile 28 = .ok (.ifCond .le 5, 3) := by decide +kernel
theorem d_Mo_compile_31 : decode b_Mo_compile 31 = .ok (.iconst 0, 1) := by decide +kernel
theorem d_Mo_compile_32 : decode b_Mo_compile 32 = .ok (.ireturn, 1) := by decide +kernel
theorem d_Mo_compile_33 : decode b_Mo_compile 33 = .ok (.aload_n 0, 1) := by decide +kernel
theorem d_Mo_compile_34 : decode b_Mo_compile 34 = .ok (.iconst 1, 1) := by decide +kernel
theorem d_Mo_compile_35 : decode b_Mo_compile 35 = .ok (.putfield 136, 3) := by decide +kernel
theorem d_Mo_compile_38 : decode b_Mo_compile 38 = .ok (.aload_n 0, 1) := by decide +kernel
theorem d_Mo_compile_39 : decode b_Mo_compile 39 = .ok (.aload_n 0, 1) := by decide +kernel
theorem d_Mo_compile_40 : decode b_Mo_compile 40 = .ok (.getfield 74, 3) := by decide +kernel
theorem d_Mo_compile_43 : decode b_Mo_compile 43 = .ok (.putfield 140, 3) := by decide +kernel
theorem d_Mo_compile_46 : decode b_Mo_compile 46 = .ok (.iconst 0, 1) := by decide +kernel
theorem d_Mo_compile_47 : decode b_Mo_compile 47 = .ok (.istore_n 1, 1) := by decide +kernel
theorem d_Mo_compile_48 : decode b_Mo_compile 48 = .ok (.iload_n 1, 1) := by decide +kernel
theorem d_Mo_compile_49 : decode b_Mo_compile 49 = .ok (.bipush 6, 2) := by decide +kernel
theorem d_Mo_compile_51 : decode b_Mo_compile 51 = .ok (.aload_n 0, 1) := by decide +kernel
theorem d_Mo_compile_52 : decode b_Mo_compile 52 = .ok (.getfield 140, 3) := by decide +kernel
theorem d_Mo_compile_55 : decode b_Mo_compile 55 = .ok (.imul, 1) := by decide +kernel
theorem d_Mo_compile_56 : decode b_Mo_compile 56 = .ok (.if_icmp .ge 21, 3) := by decide +kernel
theorem d_Mo_compile_59 : decode b_Mo_compile 59 = .ok (.aload_n 0, 1) := by decide +kernel
theorem d_Mo_compile_60 : decode b_Mo_compile 60 = .ok (.getfield 17, 3) := by decide +kernel
theorem d_Mo_compile_63 : decode b_Mo_compile 63 = .ok (.iload_n 1, 1) := by decide +kernel
theorem d_Mo_compile_64 : decode b_Mo_compile 64 = .ok (.aload_n 0, 1) := by decide +kernel
theorem d_Mo_compile_65 : decode b_Mo_compile 65 = .ok (.getfield 21, 3) := by decide +kernel
theorem d_Mo_compile_68 : decode b_Mo_compile 68 = .ok (.iload_n 1, 1) := by decide +kernel
theorem d_Mo_compile_69 : decode b_Mo_compile 69 = .ok (.iaload, 1) := by decide +kernel
theorem d_Mo_compile_70 : decode b_Mo_compile 70 = .ok (.iastore, 1) := by decide +kernel
theorem d_Mo_compile_71 : decode b_Mo_compile 71 = .ok (.iinc 1 1, 3) := by decide +kernel
theorem d_Mo_compile_74 : decode b_Mo_compile 74 = .ok (.goto (-26), 3) := by decide +kernel
theorem d_Mo_compile_77 : decode b_Mo_compile 77 = .ok (.aload_n 0, 1) := by decide +kernel
theorem d_Mo_compile_78 : decode b_Mo_compile 78 = .ok (.iconst 0, 1) := by decide +kernel
theorem d_Mo_compile_79 : decode b_Mo_compile 79 = .ok (.putfield 45, 3) := by decide +kernel
theorem d_Mo_compile_82 : decode b_Mo_compile 82 = .ok (.aload_n 0, 1) := by decide +kernel
theorem d_Mo_compile_83 : decode b_Mo_compile 83 = .ok (.getfield 95, 3) := by decide +kernel
theorem d_Mo_compile_86 : decode b_Mo_compile 86 = .ok (.ireturn, 1) := by decide +kernel
theorem d_Mo_place_0 : decode b_Mo_place 0 = .ok (.aload_n 0, 1) := by decide +kernel
theorem d_Mo_place_1 : decode b_Mo_place 1 = .ok (.iconst 0, 1) := by decide +kernel
theorem d_Mo_place_2 : decode b_Mo_place 2 = .ok (.putfield 40, 3) := by decide +kernel
theorem d_Mo_place_5 : decode b_Mo_place 5 = .ok (.aload_n 0, 1) := by decide +kernel
theorem d_Mo_place_6 : decode b_Mo_place 6 = .ok (.getfield 13, 3) := by decide +kernel
theorem d_Mo_place_9 : decode b_Mo_place 9 = .ok (.ireturn, 1) := by decide +kernel
theorem d_Mo_input_0 : decode b_Mo_input 0 = .ok (.aload_n 0, 1) := by decide +kernel
theorem d_Mo_input_1 : decode b_Mo_input 1 = .ok (.iload_n 1, 1) := by decide +kernel
theorem d_Mo_input_2 : decode b_Mo_input 2 = .ok (.ifCond .lt 9, 3) := by decide +kernel
theorem d_Mo_input_5 : decode b_Mo_input 5 = .ok (.iload_n 1, 1) := by decide +kernel
theorem d_Mo_input_6 : decode b_Mo_input 6 = .ok (.bipush 7, 2) := by decide +kernel
theorem d_Mo_input_8 : decode b_Mo_input 8 = .ok (.if_icmp .le 7, 3) := by decide +kernel
theorem d_Mo_input_11 : decode b_Mo_input 11 = .ok (.iconst 1, 1) := by decide +kernel
theorem d_Mo_input_12 : decode b_Mo_input 12 = .ok (.goto 4, 3) := by decide +kernel
theorem d_Mo_input_15 : decode b_Mo_input 15 = .ok (.iconst 0, 1) := by decide +kernel
theorem d_Mo_input_16 : decode b_Mo_input 16 = .ok (.putfield 40, 3) := by decide +kernel
theorem d_Mo_input_19 : decode b_Mo_input 19 = .ok (.aload_n 0, 1) := by decide +kernel
theorem d_Mo_input_20 : decode b_Mo_input 20 = .ok (.getfield 40, 3) := by decide +kernel
theorem d_Mo_input_23 : decode b_Mo_input 23 = .ok (.ifCond .ne 17, 3) := by decide +kernel
theorem d_Mo_input_26 : decode b_Mo_input 26 = .ok (.aload_n 0, 1) := by decide +kernel
theorem d_Mo_input_27 : decode b_Mo_input 27 = .ok (.getfield 24, 3) := by decide +kernel
theorem d_Mo_input_30 : decode b_Mo_input 30 = .ok (.iload_n 1, 1) := by decide +kernel
theorem d_Mo_input_31 : decode b_Mo_input 31 = .ok (.iconst 1, 1) := by decide +kernel
theorem d_Mo_input_32 : decode b_Mo_input 32 = .ok (.bastore, 1) := by decide +kernel
theorem d_Mo_input_33 : decode b_Mo_input 33 = .ok (.aload_n 0, 1) := by decide +kernel
theorem d_Mo_input_34 : decode b_Mo_input 34 = .ok (.getfield 28, 3) := by decide +kernel
theorem d_Mo_input_37 : decode b_Mo_input 37 = .ok (.iload_n 1, 1) := by decide +kernel
theorem d_Mo_input_38 : decode b_Mo_input 38 = .ok (.iload_n 2, 1) := by decide +kernel
theorem d_Mo_input_39 : decode b_Mo_input 39 = .ok (.iastore, 1) := by decide +kernel
theorem d_Mo_input_40 : decode b_Mo_input 40 = .ok (.return_, 1) := by decide +kernel
theorem d_Mo_seed_0 : decode b_Mo_seed 0 = .ok (.aload_n 0, 1) := by decide +kernel
theorem d_Mo_seed_1 : decode b_Mo_seed 1 = .ok (.iload_n 1, 1) := by decide +kernel
theorem d_Mo_seed_2 : decode b_Mo_seed 2 = .ok (.ifCond .lt 8, 3) := by decide +kernel
theorem d_Mo_seed_5 : decode b_Mo_seed 5 = .ok (.iload_n 1, 1) := by decide +kernel
theorem d_Mo_seed_6 : decode b_Mo_seed 6 = .ok (.iconst 2, 1) := by decide +kernel
theorem d_Mo_seed_7 : decode b_Mo_seed 7 = .ok (.if_icmp .le 7, 3) := by decide +kernel
theorem d_Mo_seed_10 : decode b_Mo_seed 10 = .ok (.iconst 1, 1) := by decide +kernel
theorem d_Mo_seed_11 : decode b_Mo_seed 11 = .ok (.goto 4, 3) := by decide +kernel
theorem d_Mo_seed_14 : decode b_Mo_seed 14 = .ok (.iconst 0, 1) := by decide +kernel
theorem d_Mo_seed_15 : decode b_Mo_seed 15 = .ok (.putfield 40, 3) := by decide +kernel
theorem d_Mo_seed_18 : decode b_Mo_seed 18 = .ok (.aload_n 0, 1) := by decide +kernel
theorem d_Mo_seed_19 : decode b_Mo_seed 19 = .ok (.getfield 40, 3) := by decide +kernel
theorem d_Mo_seed_22 : decode b_Mo_seed 22 = .ok (.ifCond .ne 10, 3) := by decide +kernel
theorem d_Mo_seed_25 : decode b_Mo_seed 25 = .ok (.aload_n 0, 1) := by decide +kernel
theorem d_Mo_seed_26 : decode b_Mo_seed 26 = .ok (.getfield 31, 3) := by decide +kernel
theorem d_Mo_seed_29 : decode b_Mo_seed 29 = .ok (.iload_n 1, 1) := by decide +kernel
theorem d_Mo_seed_30 : decode b_Mo_seed 30 = .ok (.iconst 1, 1) := by decide +kernel
theorem d_Mo_seed_31 : decode b_Mo_seed 31 = .ok (.bastore, 1) := by decide +kernel
theorem d_Mo_seed_32 : decode b_Mo_seed 32 = .ok (.return_, 1) := by decide +kernel
theorem d_Mo_lacks_0 : decode b_Mo_lacks 0 = .ok (.iload_n 1, 1) := by decide +kernel
theorem d_Mo_lacks_1 : decode b_Mo_lacks 1 = .ok (.bipush 100, 2) := by decide +kernel
theorem d_Mo_lacks_3 : decode b_Mo_lacks 3 = .ok (.if_icmp .lt 26, 3) := by decide +kernel
theorem d_Mo_lacks_6 : decode b_Mo_lacks 6 = .ok (.iload_n 1, 1) := by decide +kernel
theorem d_Mo_lacks_7 : decode b_Mo_lacks 7 = .ok (.sipush 1000, 3) := by decide +kernel
theorem d_Mo_lacks_10 : decode b_Mo_lacks 10 = .ok (.if_icmp .ge 19, 3) := by decide +kernel
theorem d_Mo_lacks_13 : decode b_Mo_lacks 13 = .ok (.aload_n 0, 1) := by decide +kernel
theorem d_Mo_lacks_14 : decode b_Mo_lacks 14 = .ok (.getfield 24, 3) := by decide +kernel
theorem d_Mo_lacks_17 : decode b_Mo_lacks 17 = .ok (.iload_n 1, 1) := by decide +kernel
theorem d_Mo_lacks_18 : decode b_Mo_lacks 18 = .ok (.bipush 100, 2) := by decide +kernel
theorem d_Mo_lacks_20 : decode b_Mo_lacks 20 = .ok (.isub, 1) := by decide +kernel
theorem d_Mo_lacks_21 : decode b_Mo_lacks 21 = .ok (.baload, 1) := by decide +kernel
theorem d_Mo_lacks_22 : decode b_Mo_lacks 22 = .ok (.ifCond .ne 7, 3) := by decide +kernel
theorem d_Mo_lacks_25 : decode b_Mo_lacks 25 = .ok (.iconst 1, 1) := by decide +kernel
theorem d_Mo_lacks_26 : decode b_Mo_lacks 26 = .ok (.goto 4, 3) := by decide +kernel
theorem d_Mo_lacks_29 : decode b_Mo_lacks 29 = .ok (.iconst 0, 1) := by decide +kernel
theorem d_Mo_lacks_30 : decode b_Mo_lacks 30 = .ok (.ireturn, 1) := by decide +kernel
theorem d_Mo_mayRun_0 : decode b_Mo_mayRun 0 = .ok (.aload_n 0, 1) := by decide +kernel
theorem d_Mo_mayRun_1 : decode b_Mo_mayRun 1 = .ok (.getfield 136, 3) := by decide +kernel
theorem d_Mo_mayRun_4 : decode b_Mo_mayRun 4 = .ok (.ifCond .eq 34, 3) := by decide +kernel
theorem d_Mo_mayRun_7 : decode b_Mo_mayRun 7 = .ok (.aload_n 0, 1) := by decide +kernel
theorem d_Mo_mayRun_8 : decode b_Mo_mayRun 8 = .ok (.getfield 31, 3) := by decide +kernel
theorem d_Mo_mayRun_11 : decode b_Mo_mayRun 11 = .ok (.iconst 0, 1) := by decide +kernel
theorem d_Mo_mayRun_12 : decode b_Mo_mayRun 12 = .ok (.baload, 1) := by decide +kernel
theorem d_Mo_mayRun_13 : decode b_Mo_mayRun 13 = .ok (.ifCond .eq 25, 3) := by decide +kernel
theorem d_Mo_mayRun_16 : decode b_Mo_mayRun 16 = .ok (.aload_n 0, 1) := by decide +kernel
theorem d_Mo_mayRun_17 : decode b_Mo_mayRun 17 = .ok (.getfield 31, 3) := by decide +kernel
theorem d_Mo_mayRun_20 : decode b_Mo_mayRun 20 = .ok (.iconst 1, 1) := by decide +kernel
theorem d_Mo_mayRun_21 : decode b_Mo_mayRun 21 = .ok (.baload, 1) := by decide +kernel
theorem d_Mo_mayRun_22 : decode b_Mo_mayRun 22 = .ok (.ifCond .eq 16, 3) := by decide +kernel
theorem d_Mo_mayRun_25 : decode b_Mo_mayRun 25 = .ok (.aload_n 0, 1) := by decide +kernel
theorem d_Mo_mayRun_26 : decode b_Mo_mayRun 26 = .ok (.getfield 31, 3) := by decide +kernel
theorem d_Mo_mayRun_29 : decode b_Mo_mayRun 29 = .ok (.iconst 2, 1) := by decide +kernel
theorem d_Mo_mayRun_30 : decode b_Mo_mayRun 30 = .ok (.baload, 1) := by decide +kernel
theorem d_Mo_mayRun_31 : decode b_Mo_mayRun 31 = .ok (.ifCond .eq 7, 3) := by decide +kernel
theorem d_Mo_mayRun_34 : decode b_Mo_mayRun 34 = .ok (.iconst 1, 1) := by decide +kernel
theorem d_Mo_mayRun_35 : decode b_Mo_mayRun 35 = .ok (.goto 4, 3) := by decide +kernel
theorem d_Mo_mayRun_38 : decode b_Mo_mayRun 38 = .ok (.iconst 0, 1) := by decide +kernel
theorem d_Mo_mayRun_39 : decode b_Mo_mayRun 39 = .ok (.istore_n 1, 1) := by decide +kernel
theorem d_Mo_mayRun_40 : decode b_Mo_mayRun 40 = .ok (.iconst 0, 1) := by decide +kernel
theorem d_Mo_mayRun_41 : decode b_Mo_mayRun 41 = .ok (.istore_n 2, 1) := by decide +kernel
theorem d_Mo_mayRun_42 : decode b_Mo_mayRun 42 = .ok (.iload_n 2, 1) := by decide +kernel
theorem d_Mo_mayRun_43 : decode b_Mo_mayRun 43 = .ok (.aload_n 0, 1) := by decide +kernel
theorem d_Mo_mayRun_44 : decode b_Mo_mayRun 44 = .ok (.getfield 140, 3) := by decide +kernel
theorem d_Mo_mayRun_47 : decode b_Mo_mayRun 47 = .ok (.if_icmp .ge 73, 3) := by decide +kernel
theorem d_Mo_mayRun_50 : decode b_Mo_mayRun 50 = .ok (.iload_n 1, 1) := by decide +kernel
theorem d_Mo_mayRun_51 : decode b_Mo_mayRun 51 = .ok (.ifCond .eq 69, 3) := by decide +kernel
theorem d_Mo_mayRun_54 : decode b_Mo_mayRun 54 = .ok (.aload_n 0, 1) := by decide +kernel
theorem d_Mo_mayRun_55 : decode b_Mo_mayRun 55 = .ok (.aload_n 0, 1) := by decide +kernel
theorem d_Mo_mayRun_56 : decode b_Mo_mayRun 56 = .ok (.getfield 17, 3) := by decide +kernel
theorem d_Mo_mayRun_59 : decode b_Mo_mayRun 59 = .ok (.bipush 6, 2) := by decide +kernel
theorem d_Mo_mayRun_61 : decode b_Mo_mayRun 61 = .ok (.iload_n 2, 1) := by decide +kernel
theorem d_Mo_mayRun_62 : decode b_Mo_mayRun 62 = .ok (.imul, 1) := by decide +kernel
theorem d_Mo_mayRun_63 : decode b_Mo_mayRun 63 = .ok (.iconst 2, 1) := by decide +kernel
theorem d_Mo_mayRun_64 : decode b_Mo_mayRun 64 = .ok (.iadd, 1) := by decide +kernel
theorem d_Mo_mayRun_65 : decode b_Mo_mayRun 65 = .ok (.iaload, 1) := by decide +kernel
theorem d_Mo_mayRun_66 : decode b_Mo_mayRun 66 = .ok (.invokevirtual 143, 3) := by decide +kernel
theorem d_Mo_mayRun_69 : decode b_Mo_mayRun 69 = .ok (.ifCond .ne 43, 3) := by decide +kernel
theorem d_Mo_mayRun_72 : decode b_Mo_mayRun 72 = .ok (.aload_n 0, 1) := by decide +kernel
theorem d_Mo_mayRun_73 : decode b_Mo_mayRun 73 = .ok (.aload_n 0, 1) := by decide +kernel
theorem d_Mo_mayRun_74 : decode b_Mo_mayRun 74 = .ok (.getfield 17, 3) := by decide +kernel
theorem d_Mo_mayRun_77 : decode b_Mo_mayRun 77 = .ok (.bipush 6, 2) := by decide +kernel
theorem d_Mo_mayRun_79 : decode b_Mo_mayRun 79 = .ok (.iload_n 2, 1) := by decide +kernel
theorem d_Mo_mayRun_80 : decode b_Mo_mayRun 80 = .ok (.imul, 1) := by decide +kernel
theorem d_Mo_mayRun_81 : decode b_Mo_mayRun 81 = .ok (.iconst 3, 1) := by decide +kernel
theorem d_Mo_mayRun_82 : decode b_Mo_mayRun 82 = .ok (.iadd, 1) := by decide +kernel
theorem d_Mo_mayRun_83 : decode b_Mo_mayRun 83 = .ok (.iaload, 1) := by decide +kernel
theorem d_Mo_mayRun_84 : decode b_Mo_mayRun 84 = .ok (.invokevirtual 143, 3) := by decide +kernel
theorem d_Mo_mayRun_87 : decode b_Mo_mayRun 87 = .ok (.ifCond .ne 25, 3) := by decide +kernel
theorem d_Mo_mayRun_90 : decode b_Mo_mayRun 90 = .ok (.aload_n 0, 1) := by decide +kernel
theorem d_Mo_mayRun_91 : decode b_Mo_mayRun 91 = .ok (.aload_n 0, 1) := by decide +kernel
theorem d_Mo_mayRun_92 : decode b_Mo_mayRun 92 = .ok (.getfield 17, 3) := by decide +kernel
theorem d_Mo_mayRun_95 : decode b_Mo_mayRun 95 = .ok (.bipush 6, 2) := by decide +kernel
theorem d_Mo_mayRun_97 : decode b_Mo_mayRun 97 = .ok (.iload_n 2, 1) := by decide +kernel
theorem d_Mo_mayRun_98 : decode b_Mo_mayRun 98 = .ok (.imul, 1) := by decide +kernel
theorem d_Mo_mayRun_99 : decode b_Mo_mayRun 99 = .ok (.iconst 4, 1) := by decide +kernel
theorem d_Mo_mayRun_100 : decode b_Mo_mayRun 100 = .ok (.iadd, 1) := by decide +kernel
theorem d_Mo_mayRun_101 : decode b_Mo_mayRun 101 = .ok (.iaload, 1) := by decide +kernel
theorem d_Mo_mayRun_102 : decode b_Mo_mayRun 102 = .ok (.invokevirtual 143, 3) := by decide +kernel
theorem d_Mo_mayRun_105 : decode b_Mo_mayRun 105 = .ok (.ifCond .ne 7, 3) := by decide +kernel
theorem d_Mo_mayRun_108 : decode b_Mo_mayRun 108 = .ok (.iconst 1, 1) := by decide +kernel
theorem d_Mo_mayRun_109 : decode b_Mo_mayRun 109 = .ok (.goto 4, 3) := by decide +kernel
theorem d_Mo_mayRun_112 : decode b_Mo_mayRun 112 = .ok (.iconst 0, 1) := by decide +kernel
theorem d_Mo_mayRun_113 : decode b_Mo_mayRun 113 = .ok (.istore_n 1, 1) := by decide +kernel
theorem d_Mo_mayRun_114 : decode b_Mo_mayRun 114 = .ok (.iinc 2 1, 3) := by decide +kernel
theorem d_Mo_mayRun_117 : decode b_Mo_mayRun 117 = .ok (.goto (-75), 3) := by decide +kernel
theorem d_Mo_mayRun_120 : decode b_Mo_mayRun 120 = .ok (.iload_n 1, 1) := by decide +kernel
theorem d_Mo_mayRun_121 : decode b_Mo_mayRun 121 = .ok (.ireturn, 1) := by decide +kernel
theorem d_Mo_valueOf_0 : decode b_Mo_valueOf 0 = .ok (.iload_n 1, 1) := by decide +kernel
theorem d_Mo_valueOf_1 : decode b_Mo_valueOf 1 = .ok (.sipush 1000, 3) := by decide +kernel
theorem d_Mo_valueOf_4 : decode b_Mo_valueOf 4 = .ok (.if_icmp .lt 11, 3) := by decide +kernel
theorem d_Mo_valueOf_7 : decode b_Mo_valueOf 7 = .ok (.iload_n 1, 1) := by decide +kernel
theorem d_Mo_valueOf_8 : decode b_Mo_valueOf 8 = .ok (.sipush 1000, 3) := by decide +kernel
theorem d_Mo_valueOf_11 : decode b_Mo_valueOf 11 = .ok (.isub, 1) := by decide +kernel
theorem d_Mo_valueOf_12 : decode b_Mo_valueOf 12 = .ok (.goto 27, 3) := by decide +kernel
theorem d_Mo_valueOf_15 : decode b_Mo_valueOf 15 = .ok (.iload_n 1, 1) := by decide +kernel
theorem d_Mo_valueOf_16 : decode b_Mo_valueOf 16 = .ok (.bipush 100, 2) := by decide +kernel
theorem d_Mo_valueOf_18 : decode b_Mo_valueOf 18 = .ok (.if_icmp .lt 15, 3) := by decide +kernel
theorem d_Mo_valueOf_21 : decode b_Mo_valueOf 21 = .ok (.aload_n 0, 1) := by decide +kernel
theorem d_Mo_valueOf_22 : decode b_Mo_valueOf 22 = .ok (.getfield 28, 3) := by decide +kernel
theorem d_Mo_valueOf_25 : decode b_Mo_valueOf 25 = .ok (.iload_n 1, 1) := by decide +kernel
theorem d_Mo_valueOf_26 : decode b_Mo_valueOf 26 = .ok (.bipush 100, 2) := by decide +kernel
theorem d_Mo_valueOf_28 : decode b_Mo_valueOf 28 = .ok (.isub, 1) := by decide +kernel
theorem d_Mo_valueOf_29 : decode b_Mo_valueOf 29 = .ok (.iaload, 1) := by decide +kernel
theorem d_Mo_valueOf_30 : decode b_Mo_valueOf 30 = .ok (.goto 9, 3) := by decide +kernel
theorem d_Mo_valueOf_33 : decode b_Mo_valueOf 33 = .ok (.aload_n 0, 1) := by decide +kernel
theorem d_Mo_valueOf_34 : decode b_Mo_valueOf 34 = .ok (.getfield 34, 3) := by decide +kernel
theorem d_Mo_valueOf_37 : decode b_Mo_valueOf 37 = .ok (.iload_n 1, 1) := by decide +kernel
theorem d_Mo_valueOf_38 : decode b_Mo_valueOf 38 = .ok (.iaload, 1) := by decide +kernel
theorem d_Mo_valueOf_39 : decode b_Mo_valueOf 39 = .ok (.ireturn, 1) := by decide +kernel
theorem d_Mo_isLess_0 : decode b_Mo_isLess 0 = .ok (.iload_n 0, 1) := by decide +kernel
theorem d_Mo_isLess_1 : decode b_Mo_isLess 1 = .ok (.i2l, 1) := by decide +kernel
theorem d_Mo_isLess_2 : decode b_Mo_isLess 2 = .ok (.ldc2_w 147, 3) := by decide +kernel
theorem d_Mo_isLess_5 : decode b_Mo_isLess 5 = .ok (.land, 1) := by decide +kernel
theorem d_Mo_isLess_6 : decode b_Mo_isLess 6 = .ok (.iload_n 1, 1) := by decide +kernel
theorem d_Mo_isLess_7 : decode b_Mo_isLess 7 = .ok (.i2l, 1) := by decide +kernel
theorem d_Mo_isLess_8 : decode b_Mo_isLess 8 = .ok (.ldc2_w 147, 3) := by decide +kernel
theorem d_Mo_isLess_11 : decode b_Mo_isLess 11 = .ok (.land, 1) := by decide +kernel
theorem d_Mo_isLess_12 : decode b_Mo_isLess 12 = .ok (.lcmp, 1) := by decide +kernel
theorem d_Mo_isLess_13 : decode b_Mo_isLess 13 = .ok (.ifCond .ge 7, 3) := by decide +kernel
theorem d_Mo_isLess_16 : decode b_Mo_isLess 16 = .ok (.iconst 1, 1) := by decide +kernel
theorem d_Mo_isLess_17 : decode b_Mo_isLess 17 = .ok (.goto 4, 3) := by decide +kernel
theorem d_Mo_isLess_20 : decode b_Mo_isLess 20 = .ok (.iconst 0, 1) := by decide +kernel
theorem d_Mo_isLess_21 : decode b_Mo_isLess 21 = .ok (.ireturn, 1) := by decide +kernel
theorem d_Mo_reckon_0 : decode b_Mo_reckon 0 = .ok (.iload_n 0, 1) := by decide +kernel
theorem d_Mo_reckon_1 : decode b_Mo_reckon 1 = .ok (.iconst 1, 1) := by decide +kernel
theorem d_Mo_reckon_2 : decode b_Mo_reckon 2 = .ok (.if_icmp .ne 9, 3) := by decide +kernel
theorem d_Mo_reckon_5 : decode b_Mo_reckon 5 = .ok (.iload_n 1, 1) := by decide +kernel
theorem d_Mo_reckon_6 : decode b_Mo_reckon 6 = .ok (.iload_n 2, 1) := by decide +kernel
theorem d_Mo_reckon_7 : decode b_Mo_reckon 7 = .ok (.iadd, 1) := by decide +kernel
theorem d_Mo_reckon_8 : decode b_Mo_reckon 8 = .ok (.goto 38, 3) := by decide +kernel
theorem d_Mo_reckon_11 : decode b_Mo_reckon 11 = .ok (.iload_n 0, 1) := by decide +kernel
theorem d_Mo_reckon_12 : decode b_Mo_reckon 12 = .ok (.iconst 2, 1) := by decide +kernel
theorem d_Mo_reckon_13 : decode b_Mo_reckon 13 = .ok (.if_icmp .ne 9, 3) := by decide +kernel
theorem d_Mo_reckon_16 : decode b_Mo_reckon 16 = .ok (.iload_n 1, 1) := by decide +kernel
theorem d_Mo_reckon_17 : decode b_Mo_reckon 17 = .ok (.iload_n 2, 1) := by decide +kernel
theorem d_Mo_reckon_18 : decode b_Mo_reckon 18 = .ok (.isub, 1) := by decide +kernel
theorem d_Mo_reckon_19 : decode b_Mo_reckon 19 = .ok (.goto 27, 3) := by decide +kernel
theorem d_Mo_reckon_22 : decode b_Mo_reckon 22 = .ok (.iload_n 0, 1) := by decide +kernel
theorem d_Mo_reckon_23 : decode b_Mo_reckon 23 = .ok (.iconst 3, 1) := by decide +kernel
theorem d_Mo_reckon_24 : decode b_Mo_reckon 24 = .ok (.if_icmp .ne 9, 3) := by decide +kernel
theorem d_Mo_reckon_27 : decode b_Mo_reckon 27 = .ok (.iload_n 1, 1) := by decide +kernel
theorem d_Mo_reckon_28 : decode b_Mo_reckon 28 = .ok (.iload_n 2, 1) := by decide +kernel
theorem d_Mo_reckon_29 : decode b_Mo_reckon 29 = .ok (.imul, 1) := by decide +kernel
theorem d_Mo_reckon_30 : decode b_Mo_reckon 30 = .ok (.goto 16, 3) := by decide +kernel
theorem d_Mo_reckon_33 : decode b_Mo_reckon 33 = .ok (.iload_n 1, 1) := by decide +kernel
theorem d_Mo_reckon_34 : decode b_Mo_reckon 34 = .ok (.iload_n 2, 1) := by decide +kernel
theorem d_Mo_reckon_35 : decode b_Mo_reckon 35 = .ok (.invokestatic 149, 3) := by decide +kernel
theorem d_Mo_reckon_38 : decode b_Mo_reckon 38 = .ok (.ifCond .eq 7, 3) := by decide +kernel
theorem d_Mo_reckon_41 : decode b_Mo_reckon 41 = .ok (.iconst 1, 1) := by decide +kernel
theorem d_Mo_reckon_42 : decode b_Mo_reckon 42 = .ok (.goto 4, 3) := by decide +kernel
theorem d_Mo_reckon_45 : decode b_Mo_reckon 45 = .ok (.iconst 0, 1) := by decide +kernel
theorem d_Mo_reckon_46 : decode b_Mo_reckon 46 = .ok (.ireturn, 1) := by decide +kernel
theorem d_Mo_sort_0 : decode b_Mo_sort 0 = .ok (.iload_n 1, 1) := by decide +kernel
theorem d_Mo_sort_1 : decode b_Mo_sort 1 = .ok (.iconst 1, 1) := by decide +kernel
theorem d_Mo_sort_2 : decode b_Mo_sort 2 = .ok (.iadd, 1) := by decide +kernel
theorem d_Mo_sort_3 : decode b_Mo_sort 3 = .ok (.istore_n 3, 1) := by decide +kernel
theorem d_Mo_sort_4 : decode b_Mo_sort 4 = .ok (.iload_n 3, 1) := by decide +kernel
theorem d_Mo_sort_5 : decode b_Mo_sort 5 = .ok (.iload_n 2, 1) := by decide +kernel
theorem d_Mo_sort_6 : decode b_Mo_sort 6 = .ok (.if_icmp .gt 74, 3) := by decide +kernel
theorem d_Mo_sort_9 : decode b_Mo_sort 9 = .ok (.aload_n 0, 1) := by decide +kernel
theorem d_Mo_sort_10 : decode b_Mo_sort 10 = .ok (.getfield 34, 3) := by decide +kernel
theorem d_Mo_sort_13 : decode b_Mo_sort 13 = .ok (.iload_n 3, 1) := by decide +kernel
theorem d_Mo_sort_14 : decode b_Mo_sort 14 = .ok (.iaload, 1) := by decide +kernel
theorem d_Mo_sort_15 : decode b_Mo_sort 15 = .ok (.istore 4, 2) := by decide +kernel
theorem d_Mo_sort_17 : decode b_Mo_sort 17 = .ok (.iload_n 3, 1) := by decide +kernel
theorem d_Mo_sort_18 : decode b_Mo_sort 18 = .ok (.istore 5, 2) := by decide +kernel
theorem d_Mo_sort_20 : decode b_Mo_sort 20 = .ok (.iload 5, 2) := by decide +kernel
theorem d_Mo_sort_22 : decode b_Mo_sort 22 = .ok (.iload_n 1, 1) := by decide +kernel
theorem d_Mo_sort_23 : decode b_Mo_sort 23 = .ok (.if_icmp .le 42, 3) := by decide +kernel
theorem d_Mo_sort_26 : decode b_Mo_sort 26 = .ok (.iload 4, 2) := by decide +kernel
theorem d_Mo_sort_28 : decode b_Mo_sort 28 = .ok (.aload_n 0, 1) := by decide +kernel
theorem d_Mo_sort_29 : decode b_Mo_sort 29 = .ok (.getfield 34, 3) := by decide +kernel
theorem d_Mo_sort_32 : decode b_Mo_sort 32 = .ok (.iload 5, 2) := by decide +kernel
theorem d_Mo_sort_34 : decode b_Mo_sort 34 = .ok (.iconst 1, 1) := by decide +kernel
theorem d_Mo_sort_35 : decode b_Mo_sort 35 = .ok (.isub, 1) := by decide +kernel
theorem d_Mo_sort_36 : decode b_Mo_sort 36 = .ok (.iaload, 1) := by decide +kernel
theorem d_Mo_sort_37 : decode b_Mo_sort 37 = .ok (.invokestatic 149, 3) := by decide +kernel
theorem d_Mo_sort_40 : decode b_Mo_sort 40 = .ok (.ifCond .eq 25, 3) := by decide +kernel
theorem d_Mo_sort_43 : decode b_Mo_sort 43 = .ok (.aload_n 0, 1) := by decide +kernel
theorem d_Mo_sort_44 : decode b_Mo_sort 44 = .ok (.getfield 34, 3) := by decide +kernel
theorem d_Mo_sort_47 : decode b_Mo_sort 47 = .ok (.iload 5, 2) := by decide +kernel
theorem d_Mo_sort_49 : decode b_Mo_sort 49 = .ok (.aload_n 0, 1) := by decide +kernel
theorem d_Mo_sort_50 : decode b_Mo_sort 50 = .ok (.getfield 34, 3) := by decide +kernel
theorem d_Mo_sort_53 : decode b_Mo_sort 53 = .ok (.iload 5, 2) := by decide +kernel
theorem d_Mo_sort_55 : decode b_Mo_sort 55 = .ok (.iconst 1, 1) := by decide +kernel
theorem d_Mo_sort_56 : decode b_Mo_sort 56 = .ok (.isub, 1) := by decide +kernel
theorem d_Mo_sort_57 : decode b_Mo_sort 57 = .ok (.iaload, 1) := by decide +kernel
theorem d_Mo_sort_58 : decode b_Mo_sort 58 = .ok (.iastore, 1) := by decide +kernel
theorem d_Mo_sort_59 : decode b_Mo_sort 59 = .ok (.iinc 5 (-1), 3) := by decide +kernel
theorem d_Mo_sort_62 : decode b_Mo_sort 62 = .ok (.goto (-42), 3) := by decide +kernel
theorem d_Mo_sort_65 : decode b_Mo_sort 65 = .ok (.aload_n 0, 1) := by decide +kernel
theorem d_Mo_sort_66 : decode b_Mo_sort 66 = .ok (.getfield 34, 3) := by decide +kernel
theorem d_Mo_sort_69 : decode b_Mo_sort 69 = .ok (.iload 5, 2) := by decide +kernel
theorem d_Mo_sort_71 : decode b_Mo_sort 71 = .ok (.iload 4, 2) := by decide +kernel
theorem d_Mo_sort_73 : decode b_Mo_sort 73 = .ok (.iastore, 1) := by decide +kernel
theorem d_Mo_sort_74 : decode b_Mo_sort 74 = .ok (.iinc 3 1, 3) := by decide +kernel
theorem d_Mo_sort_77 : decode b_Mo_sort 77 = .ok (.goto (-73), 3) := by decide +kernel
theorem d_Mo_sort_80 : decode b_Mo_sort 80 = .ok (.return_, 1) := by decide +kernel
theorem d_Mo_carry_0 : decode b_Mo_carry 0 = .ok (.aload_n 0, 1) := by decide +kernel
theorem d_Mo_carry_1 : decode b_Mo_carry 1 = .ok (.getfield 17, 3) := by decide +kernel
theorem d_Mo_carry_4 : decode b_Mo_carry 4 = .ok (.iload_n 1, 1) := by decide +kernel
theorem d_Mo_carry_5 : decode b_Mo_carry 5 = .ok (.iaload, 1) := by decide +kernel
theorem d_Mo_carry_6 : decode b_Mo_carry 6 = .ok (.istore_n 2, 1) := by decide +kernel
theorem d_Mo_carry_7 : decode b_Mo_carry 7 = .ok (.aload_n 0, 1) := by decide +kernel
theorem d_Mo_carry_8 : decode b_Mo_carry 8 = .ok (.getfield 17, 3) := by decide +kernel
theorem d_Mo_carry_11 : decode b_Mo_carry 11 = .ok (.iload_n 1, 1) := by decide +kernel
theorem d_Mo_carry_12 : decode b_Mo_carry 12 = .ok (.iconst 1, 1) := by decide +kernel
theorem d_Mo_carry_13 : decode b_Mo_carry 13 = .ok (.iadd, 1) := by decide +kernel
theorem d_Mo_carry_14 : decode b_Mo_carry 14 = .ok (.iaload, 1) := by decide +kernel
theorem d_Mo_carry_15 : decode b_Mo_carry 15 = .ok (.istore_n 3, 1) := by decide +kernel
theorem d_Mo_carry_16 : decode b_Mo_carry 16 = .ok (.aload_n 0, 1) := by decide +kernel
theorem d_Mo_carry_17 : decode b_Mo_carry 17 = .ok (.getfield 17, 3) := by decide +kernel
theorem d_Mo_carry_20 : decode b_Mo_carry 20 = .ok (.iload_n 1, 1) := by decide +kernel
theorem d_Mo_carry_21 : decode b_Mo_carry 21 = .ok (.iconst 5, 1) := by decide +kernel
theorem d_Mo_carry_22 : decode b_Mo_carry 22 = .ok (.iadd, 1) := by decide +kernel
theorem d_Mo_carry_23 : decode b_Mo_carry 23 = .ok (.iaload, 1) := by decide +kernel
theorem d_Mo_carry_24 : decode b_Mo_carry 24 = .ok (.istore 4, 2) := by decide +kernel
theorem d_Mo_carry_26 : decode b_Mo_carry 26 = .ok (.iload_n 2, 1) := by decide +kernel
theorem d_Mo_carry_27 : decode b_Mo_carry 27 = .ok (.bipush 6, 2) := by decide +kernel
theorem d_Mo_carry_29 : decode b_Mo_carry 29 = .ok (.if_icmp .ne 13, 3) := by decide +kernel
theorem d_Mo_carry_32 : decode b_Mo_carry 32 = .ok (.aload_n 0, 1) := by decide +kernel
theorem d_Mo_carry_33 : decode b_Mo_carry 33 = .ok (.iload_n 3, 1) := by decide +kernel
theorem d_Mo_carry_34 : decode b_Mo_carry 34 = .ok (.iload 4, 2) := by decide +kernel
theorem d_Mo_carry_36 : decode b_Mo_carry 36 = .ok (.invokevirtual 153, 3) := by decide +kernel
theorem d_Mo_carry_39 : decode b_Mo_carry 39 = .ok (.goto 171, 3) := by decide +kernel
theorem d_Mo_carry_42 : decode b_Mo_carry 42 = .ok (.iload_n 2, 1) := by decide +kernel
theorem d_Mo_carry_43 : decode b_Mo_carry 43 = .ok (.bipush 7, 2) := by decide +kernel
theorem d_Mo_carry_45 : decode b_Mo_carry 45 = .ok (.if_icmp .ne 43, 3) := by decide +kernel
theorem d_Mo_carry_48 : decode b_Mo_carry 48 = .ok (.iload_n 3, 1) := by decide +kernel
theorem d_Mo_carry_49 : decode b_Mo_carry 49 = .ok (.iconst 1, 1) := by decide +kernel
theorem d_Mo_carry_50 : decode b_Mo_carry 50 = .ok (.iadd, 1) := by decide +kernel
theorem d_Mo_carry_51 : decode b_Mo_carry 51 = .ok (.istore 5, 2) := by decide +kernel
theorem d_Mo_carry_53 : decode b_Mo_carry 53 = .ok (.iload 5, 2) := by decide +kernel
theorem d_Mo_carry_55 : decode b_Mo_carry 55 = .ok (.iload 4, 2) := by decide +kernel
theorem d_Mo_carry_57 : decode b_Mo_carry 57 = .ok (.if_icmp .gt 28, 3) := by decide +kernel
theorem d_Mo_carry_60 : decode b_Mo_carry 60 = .ok (.aload_n 0, 1) := by decide +kernel
theorem d_Mo_carry_61 : decode b_Mo_carry 61 = .ok (.getfield 34, 3) := by decide +kernel
theorem d_Mo_carry_64 : decode b_Mo_carry 64 = .ok (.iload 5, 2) := by decide +kernel
theorem d_Mo_carry_66 : decode b_Mo_carry 66 = .ok (.dup2, 1) := by decide +kernel
theorem d_Mo_carry_67 : decode b_Mo_carry 67 = .ok (.iaload, 1) := by decide +kernel
theorem d_Mo_carry_68 : decode b_Mo_carry 68 = .ok (.aload_n 0, 1) := by decide +kernel
theorem d_Mo_carry_69 : decode b_Mo_carry 69 = .ok (.getfield 34, 3) := by decide +kernel
theorem d_Mo_carry_72 : decode b_Mo_carry 72 = .ok (.iload 5, 2) := by decide +kernel
theorem d_Mo_carry_74 : decode b_Mo_carry 74 = .ok (.iconst 1, 1) := by decide +kernel
theorem d_Mo_carry_75 : decode b_Mo_carry 75 = .ok (.isub, 1) := by decide +kernel
theorem d_Mo_carry_76 : decode b_Mo_carry 76 = .ok (.iaload, 1) := by decide +kernel
theorem d_Mo_carry_77 : decode b_Mo_carry 77 = .ok (.iadd, 1) := by decide +kernel
theorem d_Mo_carry_78 : decode b_Mo_carry 78 = .ok (.iastore, 1) := by decide +kernel
theorem d_Mo_carry_79 : decode b_Mo_carry 79 = .ok (.iinc 5 1, 3) := by decide +kernel
theorem d_Mo_carry_82 : decode b_Mo_carry 82 = .ok (.goto (-29), 3) := by decide +kernel
theorem d_Mo_carry_85 : decode b_Mo_carry 85 = .ok (.goto 125, 3) := by decide +kernel
theorem d_Mo_carry_88 : decode b_Mo_carry 88 = .ok (.iload_n 2, 1) := by decide +kernel
theorem d_Mo_carry_89 : decode b_Mo_carry 89 = .ok (.bipush 8, 2) := by decide +kernel
theorem d_Mo_carry_91 : decode b_Mo_carry 91 = .ok (.if_icmp .ne 31, 3) := by decide +kernel
theorem d_Mo_carry_94 : decode b_Mo_carry 94 = .ok (.aload_n 0, 1) := by decide +kernel
theorem d_Mo_carry_95 : decode b_Mo_carry 95 = .ok (.getfield 37, 3) := by decide +kernel
theorem d_Mo_carry_98 : decode b_Mo_carry 98 = .ok (.aload_n 0, 1) := by decide +kernel
theorem d_Mo_carry_99 : decode b_Mo_carry 99 = .ok (.getfield 156, 3) := by decide +kernel
theorem d_Mo_carry_102 : decode b_Mo_carry 102 = .ok (.aload_n 0, 1) := by decide +kernel
theorem d_Mo_carry_103 : decode b_Mo_carry 103 = .ok (.getfield 34, 3) := by decide +kernel
theorem d_Mo_carry_106 : decode b_Mo_carry 106 = .ok (.iload_n 3, 1) := by decide +kernel
theorem d_Mo_carry_107 : decode b_Mo_carry 107 = .ok (.iaload, 1) := by decide +kernel
theorem d_Mo_carry_108 : decode b_Mo_carry 108 = .ok (.iastore, 1) := by decide +kernel
theorem d_Mo_carry_109 : decode b_Mo_carry 109 = .ok (.aload_n 0, 1) := by decide +kernel
theorem d_Mo_carry_110 : decode b_Mo_carry 110 = .ok (.dup, 1) := by decide +kernel
theorem d_Mo_carry_111 : decode b_Mo_carry 111 = .ok (.getfield 156, 3) := by decide +kernel
theorem d_Mo_carry_114 : decode b_Mo_carry 114 = .ok (.iconst 1, 1) := by decide +kernel
theorem d_Mo_carry_115 : decode b_Mo_carry 115 = .ok (.iadd, 1) := by decide +kernel
theorem d_Mo_carry_116 : decode b_Mo_carry 116 = .ok (.putfield 156, 3) := by decide +kernel
theorem d_Mo_carry_119 : decode b_Mo_carry 119 = .ok (.goto 91, 3) := by decide +kernel
theorem d_Mo_carry_122 : decode b_Mo_carry 122 = .ok (.aload_n 0, 1) := by decide +kernel
theorem d_Mo_carry_123 : decode b_Mo_carry 123 = .ok (.aload_n 0, 1) := by decide +kernel
theorem d_Mo_carry_124 : decode b_Mo_carry 124 = .ok (.getfield 17, 3) := by decide +kernel
theorem d_Mo_carry_127 : decode b_Mo_carry 127 = .ok (.iload_n 1, 1) := by decide +kernel
theorem d_Mo_carry_128 : decode b_Mo_carry 128 = .ok (.iconst 2, 1) := by decide +kernel
theorem d_Mo_carry_129 : decode b_Mo_carry 129 = .ok (.iadd, 1) := by decide +kernel
theorem d_Mo_carry_130 : decode b_Mo_carry 130 = .ok (.iaload, 1) := by decide +kernel
theorem d_Mo_carry_131 : decode b_Mo_carry 131 = .ok (.invokevirtual 159, 3) := by decide +kernel
theorem d_Mo_carry_134 : decode b_Mo_carry 134 = .ok (.istore 5, 2) := by decide +kernel
theorem d_Mo_carry_136 : decode b_Mo_carry 136 = .ok (.aload_n 0, 1) := by decide +kernel
theorem d_Mo_carry_137 : decode b_Mo_carry 137 = .ok (.aload_n 0, 1) := by decide +kernel
theorem d_Mo_carry_138 : decode b_Mo_carry 138 = .ok (.getfield 17, 3) := by decide +kernel
theorem d_Mo_carry_141 : decode b_Mo_carry 141 = .ok (.iload_n 1, 1) := by decide +kernel
theorem d_Mo_carry_142 : decode b_Mo_carry 142 = .ok (.iconst 3, 1) := by decide +kernel
theorem d_Mo_carry_143 : decode b_Mo_carry 143 = .ok (.iadd, 1) := by decide +kernel
theorem d_Mo_carry_144 : decode b_Mo_carry 144 = .ok (.iaload, 1) := by decide +kernel
theorem d_Mo_carry_145 : decode b_Mo_carry 145 = .ok (.invokevirtual 159, 3) := by decide +kernel
theorem d_Mo_carry_148 : decode b_Mo_carry 148 = .ok (.istore 6, 2) := by decide +kernel
theorem d_Mo_carry_150 : decode b_Mo_carry 150 = .ok (.aload_n 0, 1) := by decide +kernel
theorem d_Mo_carry_151 : decode b_Mo_carry 151 = .ok (.aload_n 0, 1) := by decide +kernel
theorem d_Mo_carry_152 : decode b_Mo_carry 152 = .ok (.getfield 17, 3) := by decide +kernel
theorem d_Mo_carry_155 : decode b_Mo_carry 155 = .ok (.iload_n 1, 1) := by decide +kernel
theorem d_Mo_carry_156 : decode b_Mo_carry 156 = .ok (.iconst 4, 1) := by decide +kernel
theorem d_Mo_carry_157 : decode b_Mo_carry 157 = .ok (.iadd, 1) := by decide +kernel
theorem d_Mo_carry_158 : decode b_Mo_carry 158 = .ok (.iaload, 1) := by decide +kernel
theorem d_Mo_carry_159 : decode b_Mo_carry 159 = .ok (.invokevirtual 159, 3) := by decide +kernel
theorem d_Mo_carry_162 : decode b_Mo_carry 162 = .ok (.istore 7, 2) := by decide +kernel
theorem d_Mo_carry_164 : decode b_Mo_carry 164 = .ok (.aload_n 0, 1) := by decide +kernel
theorem d_Mo_carry_165 : decode b_Mo_carry 165 = .ok (.getfield 34, 3) := by decide +kernel
theorem d_Mo_carry_168 : decode b_Mo_carry 168 = .ok (.iload_n 3, 1) := by decide +kernel
theorem d_Mo_carry_169 : decode b_Mo_carry 169 = .ok (.iload_n 2, 1) := by decide +kernel
theorem d_Mo_carry_170 : decode b_Mo_carry 170 = .ok (.ifCond .ne 8, 3) := by decide +kernel
theorem d_Mo_carry_173 : decode b_Mo_carry 173 = .ok (.iload 5, 2) := by decide +kernel
theorem d_Mo_carry_175 : decode b_Mo_carry 175 = .ok (.goto 34, 3) := by decide +kernel
theorem d_Mo_carry_178 : decode b_Mo_carry 178 = .ok (.iload_n 2, 1) := by decide +kernel
theorem d_Mo_carry_179 : decode b_Mo_carry 179 = .ok (.iconst 5, 1) := by decide +kernel
theorem d_Mo_carry_180 : decode b_Mo_carry 180 = .ok (.if_icmp .ne 21, 3) := by decide +kernel
theorem d_Mo_carry_183 : decode b_Mo_carry 183 = .ok (.iload 5, 2) := by decide +kernel
theorem d_Mo_carry_185 : decode b_Mo_carry 185 = .ok (.iconst 1, 1) := by decide +kernel
theorem d_Mo_carry_186 : decode b_Mo_carry 186 = .ok (.iand, 1) := by decide +kernel
theorem d_Mo_carry_187 : decode b_Mo_carry 187 = .ok (.iconst 1, 1) := by decide +kernel
theorem d_Mo_carry_188 : decode b_Mo_carry 188 = .ok (.if_icmp .ne 8, 3) := by decide +kernel
theorem d_Mo_carry_191 : decode b_Mo_carry 191 = .ok (.iload 6, 2) := by decide +kernel
theorem d_Mo_carry_193 : decode b_Mo_carry 193 = .ok (.goto 16, 3) := by decide +kernel
theorem d_Mo_carry_196 : decode b_Mo_carry 196 = .ok (.iload 7, 2) := by decide +kernel
theorem d_Mo_carry_198 : decode b_Mo_carry 198 = .ok (.goto 11, 3) := by decide +kernel
theorem d_Mo_carry_201 : decode b_Mo_carry 201 = .ok (.iload_n 2, 1) := by decide +kernel
theorem d_Mo_carry_202 : decode b_Mo_carry 202 = .ok (.iload 5, 2) := by decide +kernel
theorem d_Mo_carry_204 : decode b_Mo_carry 204 = .ok (.iload 6, 2) := by decide +kernel
theorem d_Mo_carry_206 : decode b_Mo_carry 206 = .ok (.invokestatic 162, 3) := by decide +kernel
theorem d_Mo_carry_209 : decode b_Mo_carry 209 = .ok (.iastore, 1) := by decide +kernel
theorem d_Mo_carry_210 : decode b_Mo_carry 210 = .ok (.return_, 1) := by decide +kernel
theorem d_Mo_run_0 : decode b_Mo_run 0 = .ok (.aload_n 0, 1) := by decide +kernel
theorem d_Mo_run_1 : decode b_Mo_run 1 = .ok (.aload_n 0, 1) := by decide +kernel
theorem d_Mo_run_2 : decode b_Mo_run 2 = .ok (.invokevirtual 165, 3) := by decide +kernel
theorem d_Mo_run_5 : decode b_Mo_run 5 = .ok (.ifCond .eq 7, 3) := by decide +kernel
theorem d_Mo_run_8 : decode b_Mo_run 8 = .ok (.iconst 0, 1) := by decide +kernel
theorem d_Mo_run_9 : decode b_Mo_run 9 = .ok (.goto 4, 3) := by decide +kernel
theorem d_Mo_run_12 : decode b_Mo_run 12 = .ok (.iconst 1, 1) := by decide +kernel
theorem d_Mo_run_13 : decode b_Mo_run 13 = .ok (.putfield 40, 3) := by decide +kernel
theorem d_Mo_run_16 : decode b_Mo_run 16 = .ok (.aload_n 0, 1) := by decide +kernel
theorem d_Mo_run_17 : decode b_Mo_run 17 = .ok (.getfield 40, 3) := by decide +kernel
theorem d_Mo_run_20 : decode b_Mo_run 20 = .ok (.ifCond .le 5, 3) := by decide +kernel
theorem d_Mo_run_23 : decode b_Mo_run 23 = .ok (.iconst 0, 1) := by decide +kernel
theorem d_Mo_run_24 : decode b_Mo_run 24 = .ok (.ireturn, 1) := by decide +kernel
theorem d_Mo_run_25 : decode b_Mo_run 25 = .ok (.iconst 0, 1) := by decide +kernel
theorem d_Mo_run_26 : decode b_Mo_run 26 = .ok (.istore_n 2, 1) := by decide +kernel
theorem d_Mo_run_27 : decode b_Mo_run 27 = .ok (.iload_n 2, 1) := by decide +kernel
theorem d_Mo_run_28 : decode b_Mo_run 28 = .ok (.bipush 26, 2) := by decide +kernel
theorem d_Mo_run_30 : decode b_Mo_run 30 = .ok (.if_icmp .ge 16, 3) := by decide +kernel
theorem d_Mo_run_33 : decode b_Mo_run 33 = .ok (.aload_n 0, 1) := by decide +kernel
theorem d_Mo_run_34 : decode b_Mo_run 34 = .ok (.getfield 34, 3) := by decide +kernel
theorem d_Mo_run_37 : decode b_Mo_run 37 = .ok (.iload_n 2, 1) := by decide +kernel
theorem d_Mo_run_38 : decode b_Mo_run 38 = .ok (.iconst 0, 1) := by decide +kernel
theorem d_Mo_run_39 : decode b_Mo_run 39 = .ok (.iastore, 1) := by decide +kernel
theorem d_Mo_run_40 : decode b_Mo_run 40 = .ok (.iinc 2 1, 3) := by decide +kernel
theorem d_Mo_run_43 : decode b_Mo_run 43 = .ok (.goto (-16), 3) := by decide +kernel
theorem d_Mo_run_46 : decode b_Mo_run 46 = .ok (.aload_n 0, 1) := by decide +kernel
theorem d_Mo_run_47 : decode b_Mo_run 47 = .ok (.iconst 0, 1) := by decide +kernel
theorem d_Mo_run_48 : decode b_Mo_run 48 = .ok (.putfield 156, 3) := by decide +kernel
theorem d_Mo_run_51 : decode b_Mo_run 51 = .ok (.iconst 0, 1) := by decide +kernel
theorem d_Mo_run_52 : decode b_Mo_run 52 = .ok (.istore_n 2, 1) := by decide +kernel
theorem d_Mo_run_53 : decode b_Mo_run 53 = .ok (.iload_n 2, 1) := by decide +kernel
theorem d_Mo_run_54 : decode b_Mo_run 54 = .ok (.aload_n 0, 1) := by decide +kernel
theorem d_Mo_run_55 : decode b_Mo_run 55 = .ok (.getfield 140, 3) := by decide +kernel
theorem d_Mo_run_58 : decode b_Mo_run 58 = .ok (.if_icmp .ge 17, 3) := by decide +kernel
theorem d_Mo_run_61 : decode b_Mo_run 61 = .ok (.aload_n 0, 1) := by decide +kernel
theorem d_Mo_run_62 : decode b_Mo_run 62 = .ok (.bipush 6, 2) := by decide +kernel
theorem d_Mo_run_64 : decode b_Mo_run 64 = .ok (.iload_n 2, 1) := by decide +kernel
theorem d_Mo_run_65 : decode b_Mo_run 65 = .ok (.imul, 1) := by decide +kernel
theorem d_Mo_run_66 : decode b_Mo_run 66 = .ok (.invokevirtual 168, 3) := by decide +kernel
theorem d_Mo_run_69 : decode b_Mo_run 69 = .ok (.iinc 2 1, 3) := by decide +kernel
theorem d_Mo_run_72 : decode b_Mo_run 72 = .ok (.goto (-19), 3) := by decide +kernel
theorem d_Mo_run_75 : decode b_Mo_run 75 = .ok (.aload_n 0, 1) := by decide +kernel
theorem d_Mo_run_76 : decode b_Mo_run 76 = .ok (.getfield 156, 3) := by decide +kernel
theorem d_Mo_run_79 : decode b_Mo_run 79 = .ok (.ireturn, 1) := by decide +kernel
theorem d_Mo_output_0 : decode b_Mo_output 0 = .ok (.aload_n 0, 1) := by decide +kernel
theorem d_Mo_output_1 : decode b_Mo_output 1 = .ok (.iload_n 1, 1) := by decide +kernel
theorem d_Mo_output_2 : decode b_Mo_output 2 = .ok (.ifCond .lt 11, 3) := by decide +kernel
theorem d_Mo_output_5 : decode b_Mo_output 5 = .ok (.iload_n 1, 1) := by decide +kernel
theorem d_Mo_output_6 : decode b_Mo_output 6 = .ok (.aload_n 0, 1) := by decide +kernel
theorem d_Mo_output_7 : decode b_Mo_output 7 = .ok (.getfield 156, 3) := by decide +kernel
theorem d_Mo_output_10 : decode b_Mo_output 10 = .ok (.if_icmp .lt 7, 3) := by decide +kernel
theorem d_Mo_output_13 : decode b_Mo_output 13 = .ok (.iconst 1, 1) := by decide +kernel
theorem d_Mo_output_14 : decode b_Mo_output 14 = .ok (.goto 4, 3) := by decide +kernel
theorem d_Mo_output_17 : decode b_Mo_output 17 = .ok (.iconst 0, 1) := by decide +kernel
theorem d_Mo_output_18 : decode b_Mo_output 18 = .ok (.putfield 40, 3) := by decide +kernel
theorem d_Mo_output_21 : decode b_Mo_output 21 = .ok (.aload_n 0, 1) := by decide +kernel
theorem d_Mo_output_22 : decode b_Mo_output 22 = .ok (.getfield 40, 3) := by decide +kernel
theorem d_Mo_output_25 : decode b_Mo_output 25 = .ok (.ifCond .ne 12, 3) := by decide +kernel
theorem d_Mo_output_28 : decode b_Mo_output 28 = .ok (.aload_n 0, 1) := by decide +kernel
theorem d_Mo_output_29 : decode b_Mo_output 29 = .ok (.getfield 37, 3) := by decide +kernel
theorem d_Mo_output_32 : decode b_Mo_output 32 = .ok (.iload_n 1, 1) := by decide +kernel
theorem d_Mo_output_33 : decode b_Mo_output 33 = .ok (.iaload, 1) := by decide +kernel
theorem d_Mo_output_34 : decode b_Mo_output 34 = .ok (.goto 4, 3) := by decide +kernel
theorem d_Mo_output_37 : decode b_Mo_output 37 = .ok (.iconst 0, 1) := by decide +kernel
theorem d_Mo_output_38 : decode b_Mo_output 38 = .ok (.ireturn, 1) := by decide +kernel
abbrev rm_Mo_write : Room := { frames := 0, cells := 0, slots := 0, locals := 0 }
set_option maxHeartbeats 4000000 in
set_option maxRecDepth 100000 in
theorem c_Mo_write (l : Launch) (G : Gt) (h0 : Nat) (mcd : Int32) (mtx : Nat) (mpl : Int32) (mth : Int32) (mln : Int32) (msc : Nat) (mfr : Int32) (mdr : Nat) (mcm : Int32) (mop : Int32) (mkd : Int32) (mbg : Int32) (mnd : Int32) (mam : Int32) (mis : Nat) (mip : Nat) (msd : Nat) (mrg : Nat) (mmn : Int32) (mou : Nat) (L : Nat) (f0 : Nat → Int32) (ch : Int64) (hL : L ≤ 120) : Ct l G y_Mo_write b_Mo_write 6 (some .boolean) rm_Mo_write [.ref h0, .long ch] [(h0, .inr (1, [.int mcd, .int (nI L), .ref mtx, .int mpl, .int mth, .int mln, .ref msc, .int mfr, .ref mdr, .int mcm, .int mop, .int mkd, .int mbg, .int mnd, .int mam, .ref mis, .ref mip, .ref msd, .ref mrg, .int mmn, .ref mou])), (mtx, .inl (G.2 2, 120, .inl f0))] 0 0 (fun v w' => v = some (.int ((mwR ch L f0).1)) ∧ w' = [(h0, .inr (1, [.int 0, .int (nI (mwR ch L f0).2.1), .ref mtx, .int mpl, .int mth, .int mln, .ref msc, .int mfr, .ref mdr, .int mcm, .int mop, .int mkd, .int mbg, .int mnd, .int mam, .ref mis, .ref mip, .ref msd, .ref mrg, .int mmn, .ref mou])), (mtx, .inl (G.2 2, 120, .inl ((mwR ch L f0).2.2)))]) := by
  refine Ct.of (by decide) (Nat.le_of_ble_eq_true rfl) (fun p e s m args below meth c A ls H locs hx hb hml hr hnl hown hts hnm hK hA hl hW => ?_)
  have hl : lv_has ls 6 [(0, .ref h0), (1, .long ch)] := hl
  refine lv_aload_n hx hb d_Mo_write_0 rfl (lv_at hl 0 rfl) ?_
  refine lv_iconst (v := 0) hx hb d_Mo_write_1 (by decide) ?_
  refine Wd.put hx hb hts hown hK hW 0 0 in_Mo t_Mo_ok n_Mo w_fl_Mo_40 (by decide) d_Mo_write_2 rfl rfl rfl rfl rfl (Nat.le_of_ble_eq_true rfl) (fun H locs hW => ?_)
  have hW : Wd G A s.heap [(h0, .inr (1, [.int 0, .int (nI L), .ref mtx, .int mpl, .int mth, .int mln, .ref msc, .int mfr, .ref mdr, .int mcm, .int mop, .int mkd, .int mbg, .int mnd, .int mam, .ref mis, .ref mip, .ref msd, .ref mrg, .int mmn, .ref mou])), (mtx, .inl (G.2 2, 120, .inl f0))] H locs := hW
  refine lv_iconst (v := 0) hx hb d_Mo_write_5 (by decide) ?_
  refine lv_istore_n (lv' := [(3, .int 0), (0, .ref h0), (1, .long ch)]) hx hb d_Mo_write_6 rfl hl (by decide) rfl (fun ls hl => ?_)
  refine lv_iconst (v := 0) hx hb d_Mo_write_7 (by decide) ?_
  refine lv_istore (lv' := [(4, .int 0), (3, .int 0), (0, .ref h0), (1, .long ch)]) hx hb d_Mo_write_8 hl (by decide) rfl (fun ls hl => ?_)
  have loop10 : ∀ (u : Nat) (k : Nat) (n : Nat) (ls : Array Slot) (H : Heap) (locs : List Loc), k ≤ 8 → n ≤ k → mwA ch (8 - k) k n = mwA ch 8 0 0 → (8 - k) < u → lv_has ls 6 [(0, .ref h0), (1, .long ch), (3, .int (nI n)), (4, .int (nI k))] → Wd G A s.heap [(h0, .inr (1, [.int 0, .int (nI L), .ref mtx, .int mpl, .int mth, .int mln, .ref msc, .int mfr, .ref mdr, .int mcm, .int mop, .int mkd, .int mbg, .int mnd, .int mam, .ref mis, .ref mip, .ref msd, .ref mrg, .int mmn, .ref mou])), (mtx, .inl (G.2 2, 120, .inl f0))] H locs → W p l e rm_Mo_write s m args below meth c H locs 0 0 (MQ below (Qcc G (fun v w' => v = some (.int ((mwR ch L f0).1)) ∧ w' = [(h0, .inr (1, [.int 0, .int (nI (mwR ch L f0).2.1), .ref mtx, .int mpl, .int mth, .int mln, .ref msc, .int mfr, .ref mdr, .int mcm, .int mop, .int mkd, .int mbg, .int mnd, .int mam, .ref mis, .ref mip, .ref msd, .ref mrg, .int mmn, .ref mou])), (mtx, .inl (G.2 2, 120, .inl ((mwR ch L f0).2.2)))]) A) args s 0 0 A) (F0 m 10 ls []) := by
    intro u
    induction u with
    | zero => intro k n ls H locs hk hn hg hu; exact absurd hu (Nat.not_lt_zero _)
    | succ u ih10 =>
      intro k n ls H locs hk hn hg hu10 hl hW
      refine lv_iload hx hb d_Mo_write_10 (lv_at hl 3 rfl) ?_
      refine lv_bipush (v := 8) hx hb d_Mo_write_12 (by decide) ?_
      refine lv_icmp_ge (tgt := 71) hx hb d_Mo_write_14 rfl (fun ht1 => ?_) (fun hf2 => ?_)
      · have hk8 : k = 8 := by have := (nI_leI (a := 8) (b := k) (by omega) (by omega)).mp ht1; omega
        have hn8 : mwA ch 8 0 0 = some n := by subst hk8; exact hg.symm
        refine lv_aload_n hx hb d_Mo_write_71 rfl (lv_at hl 0 rfl) ?_
        refine Wd.get hx hb hts hown hK hW 0 1 in_Mo w_fl_Mo_45 (by decide) d_Mo_write_72 rfl rfl rfl ?_
        refine lv_iload_n hx hb d_Mo_write_75 rfl (lv_at hl 2 rfl) ?_
        refine lv_iadd hx hb d_Mo_write_76 ?_
        refine lv_bipush (v := 120) hx hb d_Mo_write_77 (by decide) ?_
        refine lv_icmp_le (tgt := 84) hx hb d_Mo_write_79 rfl (fun ht3 => ?_) (fun hf4 => ?_)
        · have h120 : nI L + nI n ≤ 120 := ht3
          have hc0 : L + mwC ch 8 0 ≤ 120 := by have h1 := mwA_C 8 0 0 n hn8; have h2 := (nI_leI (a := L + n) (b := 120) (by omega) (by omega)).mp (by rw [← nI_add]; exact h120); omega
          refine lv_iconst (v := 0) hx hb d_Mo_write_84 (by decide) ?_
          refine lv_istore (lv' := [(4, .int 0), (0, .ref h0), (1, .long ch), (3, .int (nI n))]) hx hb d_Mo_write_85 hl (by decide) rfl (fun ls hl => ?_)
          have loop87 : ∀ (u : Nat) (j : Nat) (L' : Nat) (f : Nat → Int32) (ls : Array Slot) (H : Heap) (locs : List Loc), j ≤ 8 → L' + mwC ch (8 - j) j ≤ 120 → mwB ch (8 - j) j L' f = mwB ch 8 0 L f0 → (8 - j) < u → lv_has ls 6 [(0, .ref h0), (1, .long ch), (4, .int (nI j))] → Wd G A s.heap [(h0, .inr (1, [.int 0, .int (nI L'), .ref mtx, .int mpl, .int mth, .int mln, .ref msc, .int mfr, .ref mdr, .int mcm, .int mop, .int mkd, .int mbg, .int mnd, .int mam, .ref mis, .ref mip, .ref msd, .ref mrg, .int mmn, .ref mou])), (mtx, .inl (G.2 2, 120, .inl f))] H locs → W p l e rm_Mo_write s m args below meth c H locs 0 0 (MQ below (Qcc G (fun v w' => v = some (.int ((mwR ch L f0).1)) ∧ w' = [(h0, .inr (1, [.int 0, .int (nI (mwR ch L f0).2.1), .ref mtx, .int mpl, .int mth, .int mln, .ref msc, .int mfr, .ref mdr, .int mcm, .int mop, .int mkd, .int mbg, .int mnd, .int mam, .ref mis, .ref mip, .ref msd, .ref mrg, .int mmn, .ref mou])), (mtx, .inl (G.2 2, 120, .inl ((mwR ch L f0).2.2)))]) A) args s 0 0 A) (F0 m 87 ls []) := by
            intro u
            induction u with
            | zero => intro j L' f ls H locs hj hc hg2 hu; exact absurd hu (Nat.not_lt_zero _)
            | succ u ih87 =>
              intro j L' f ls H locs hj hc hg2 hu87 hl hW
              refine lv_iload hx hb d_Mo_write_87 (lv_at hl 2 rfl) ?_
              refine lv_bipush (v := 8) hx hb d_Mo_write_89 (by decide) ?_
              refine lv_icmp_ge (tgt := 141) hx hb d_Mo_write_91 rfl (fun ht11 => ?_) (fun hf12 => ?_)
              · have hj8 : j = 8 := by have := (nI_leI (a := 8) (b := j) (by omega) (by omega)).mp ht11; omega
                refine lv_iconst (v := 1) hx hb d_Mo_write_141 (by decide) ?_
                exact Ct.zret hx hb hr hnl hW (by decide) (by decide) d_Mo_write_142 (by decide) (by
          have e : mwR ch L f0 = (1, L', f) := by
            unfold mwR
            rw [hn8]
            show (if nI L + nI n ≤ 120 then (1, mwB ch 8 0 L f0) else (0, L, f0)) = _
            rw [if_pos h120, ← hg2]
            subst hj8
            rfl
          rw [e]
          exact ⟨rfl, rfl⟩)
              · have hj8 : j < 8 := by apply Nat.lt_of_not_le; intro q; exact hf12 (nI_le (a := 8) q (by omega))
                refine lv_lload_n hx hb d_Mo_write_94 rfl (lv_at hl 1 rfl) ?_
                refine lv_bipush (v := 8) hx hb d_Mo_write_95 (by decide) ?_
                refine lv_iload hx hb d_Mo_write_97 (lv_at hl 2 rfl) ?_
                refine lv_imul hx hb d_Mo_write_99 ?_
                refine lv_lshr (v := ch >>> ((8 * (nI j)).toInt64 &&& 63)) hx hb d_Mo_write_100 rfl ?_
                refine lv_ldc2 (v := 255) hx hb hown (hts _ w_kl_Mo_43) d_Mo_write_101 ?_
                refine lv_land hx hb d_Mo_write_104 ?_
                refine lv_l2i (v := ((ch >>> ((8 * (nI j)).toInt64 &&& 63)) &&& 255).toInt32) hx hb d_Mo_write_105 rfl ?_
                refine lv_istore (lv' := [(5, .int (((ch >>> ((8 * (nI j)).toInt64 &&& 63)) &&& 255).toInt32)), (0, .ref h0), (1, .long ch), (4, .int (nI j))]) hx hb d_Mo_write_106 hl (by decide) rfl (fun ls hl => ?_)
                refine lv_iload hx hb d_Mo_write_108 (lv_at hl 0 rfl) ?_
                refine lv_if_eq (tgt := 135) hx hb d_Mo_write_110 rfl (fun ht13 => ?_) (fun hf14 => ?_)
                · refine lv_iinc (k := 3) (v := nI (j + 1)) (lv' := [(4, .int (nI (j + 1))), (5, .int (((ch >>> ((8 * (nI j)).toInt64 &&& 63)) &&& 255).toInt32)), (0, .ref h0), (1, .long ch)]) hx hb d_Mo_write_135 hl rfl (nI_succ j).symm (by decide) rfl (fun ls hl => ?_)
                  refine lv_goto (tgt := 87) hx hb d_Mo_write_138 rfl ?_
                  exact ih87 (j + 1) L' f ls H locs (by omega) (by rw [mwC_s (by omega), if_pos (show mcd_ ch j = 0 from ht13)] at hc; rw [show 8 - (j + 1) = 8 - j - 1 by omega]; omega) (by rw [mwB_s (by omega), if_pos (show mcd_ ch j = 0 from ht13)] at hg2; rw [show 8 - (j + 1) = 8 - j - 1 by omega]; exact hg2) (by omega) (lv_sub hl [2, 3, 0] rfl) hW
                · refine lv_aload_n hx hb d_Mo_write_113 rfl (lv_at hl 1 rfl) ?_
                  refine Wd.get hx hb hts hown hK hW 0 2 in_Mo w_fl_Mo_7 (by decide) d_Mo_write_114 rfl rfl rfl ?_
                  refine lv_aload_n hx hb d_Mo_write_117 rfl (lv_at hl 1 rfl) ?_
                  refine Wd.get hx hb hts hown hK hW 0 1 in_Mo w_fl_Mo_45 (by decide) d_Mo_write_118 rfl rfl rfl ?_
                  refine lv_iload hx hb d_Mo_write_121 (lv_at hl 0 rfl) ?_
                  refine lv_i2c (v := ((((ch >>> ((8 * (nI j)).toInt64 &&& 63)) &&& 255).toInt32).toUInt32 % 65536).toInt32) hx hb d_Mo_write_123 rfl ?_
                  refine Wd.cast hx hb hK hW 1 d_Mo_write_124 rfl (vp_in_nI (by have h3 := hc; rw [mwC_s (by omega), if_neg (by assumption)] at h3; omega) (by omega)) (fun H locs hW => ?_)
                  have hW : Wd G A s.heap [(h0, .inr (1, [.int 0, .int (nI L'), .ref mtx, .int mpl, .int mth, .int mln, .ref msc, .int mfr, .ref mdr, .int mcm, .int mop, .int mkd, .int mbg, .int mnd, .int mam, .ref mis, .ref mip, .ref msd, .ref mrg, .int mmn, .ref mou])), (mtx, .inl (G.2 2, 120, .inl (upd f ((nI L').toNatClampNeg) (vp_nar .char (((((ch >>> ((8 * (nI j)).toInt64 &&& 63)) &&& 255).toInt32).toUInt32 % 65536).toInt32)))))] H locs := hW
                  refine lv_aload_n hx hb d_Mo_write_125 rfl (lv_at hl 1 rfl) ?_
                  refine lv_dup hx hb d_Mo_write_126 rfl ?_
                  refine Wd.get hx hb hts hown hK hW 0 1 in_Mo w_fl_Mo_45 (by decide) d_Mo_write_127 rfl rfl rfl ?_
                  refine lv_iconst (v := 1) hx hb d_Mo_write_130 (by decide) ?_
                  refine lv_iadd hx hb d_Mo_write_131 ?_
                  refine lv_topi (fun cz ez => ?_)
                  obtain rfl : cz = nI (L' + 1) := ez.trans (nI_succ L').symm
                  refine Wd.put hx hb hts hown hK hW 0 1 in_Mo t_Mo_ok n_Mo w_fl_Mo_45 (by decide) d_Mo_write_132 rfl rfl rfl rfl rfl (Nat.le_of_ble_eq_true rfl) (fun H locs hW => ?_)
                  have hW : Wd G A s.heap [(h0, .inr (1, [.int 0, .int (nI (L' + 1)), .ref mtx, .int mpl, .int mth, .int mln, .ref msc, .int mfr, .ref mdr, .int mcm, .int mop, .int mkd, .int mbg, .int mnd, .int mam, .ref mis, .ref mip, .ref msd, .ref mrg, .int mmn, .ref mou])), (mtx, .inl (G.2 2, 120, .inl (upd f ((nI L').toNatClampNeg) (vp_nar .char (((((ch >>> ((8 * (nI j)).toInt64 &&& 63)) &&& 255).toInt32).toUInt32 % 65536).toInt32)))))] H locs := hW
                  refine lv_iinc (k := 3) (v := nI (j + 1)) (lv' := [(4, .int (nI (j + 1))), (5, .int (((ch >>> ((8 * (nI j)).toInt64 &&& 63)) &&& 255).toInt32)), (0, .ref h0), (1, .long ch)]) hx hb d_Mo_write_135 hl rfl (nI_succ j).symm (by decide) rfl (fun ls hl => ?_)
                  refine lv_goto (tgt := 87) hx hb d_Mo_write_138 rfl ?_
                  exact ih87 (j + 1) (L' + 1) (upd f ((nI L').toNatClampNeg) (vp_nar .char (((((ch >>> ((8 * (nI j)).toInt64 &&& 63)) &&& 255).toInt32).toUInt32 % 65536).toInt32))) ls H locs (by omega) (by rw [mwC_s (by omega), if_neg (show ¬ mcd_ ch j = 0 from hf14)] at hc; rw [show 8 - (j + 1) = 8 - j - 1 by omega]; omega) (by rw [mwB_s (by omega), if_neg (show ¬ mcd_ ch j = 0 from hf14)] at hg2; rw [show 8 - (j + 1) = 8 - j - 1 by omega]; exact hg2) (by omega) (lv_sub hl [2, 3, 0] rfl) hW
          exact loop87 (_ + 1) 0 L f0 ls H locs (Nat.zero_le _) hc0 rfl (Nat.lt_succ_self _) (lv_sub hl [1, 2, 0] rfl) hW
        · have h120 : ¬ nI L + nI n ≤ 120 := hf4
          refine lv_iconst (v := 0) hx hb d_Mo_write_82 (by decide) ?_
          exact Ct.zret hx hb hr hnl hW (by decide) (by decide) d_Mo_write_83 (by decide) (by
          have e : mwR ch L f0 = (0, L, f0) := by
            unfold mwR
            rw [hn8]
            exact if_neg h120
          rw [e]
          exact ⟨rfl, rfl⟩)
      · have hk8 : k < 8 := by apply Nat.lt_of_not_le; intro q; exact hf2 (nI_le (a := 8) q (by omega))
        refine lv_lload_n hx hb d_Mo_write_17 rfl (lv_at hl 1 rfl) ?_
        refine lv_bipush (v := 8) hx hb d_Mo_write_18 (by decide) ?_
        refine lv_iload hx hb d_Mo_write_20 (lv_at hl 3 rfl) ?_
        refine lv_imul hx hb d_Mo_write_22 ?_
        refine lv_lshr (v := ch >>> ((8 * (nI k)).toInt64 &&& 63)) hx hb d_Mo_write_23 rfl ?_
        refine lv_ldc2 (v := 255) hx hb hown (hts _ w_kl_Mo_43) d_Mo_write_24 ?_
        refine lv_land hx hb d_Mo_write_27 ?_
        refine lv_l2i (v := ((ch >>> ((8 * (nI k)).toInt64 &&& 63)) &&& 255).toInt32) hx hb d_Mo_write_28 rfl ?_
        refine lv_istore (lv' := [(5, .int (((ch >>> ((8 * (nI k)).toInt64 &&& 63)) &&& 255).toInt32)), (0, .ref h0), (1, .long ch), (3, .int (nI n)), (4, .int (nI k))]) hx hb d_Mo_write_29 hl (by decide) rfl (fun ls hl => ?_)
        refine lv_iload hx hb d_Mo_write_31 (lv_at hl 0 rfl) ?_
        refine lv_if_eq (tgt := 52) hx hb d_Mo_write_33 rfl (fun ht5 => ?_) (fun hf6 => ?_)
        · refine lv_iload_n hx hb d_Mo_write_52 rfl (lv_at hl 3 rfl) ?_
          refine lv_iload hx hb d_Mo_write_53 (lv_at hl 0 rfl) ?_
          refine lv_if_ne (tgt := 62) hx hb d_Mo_write_55 rfl (fun hz => absurd ht5 hz) (fun _ => ?_)
          refine lv_iconst (v := 0) hx hb d_Mo_write_58 (by decide) ?_
          refine lv_goto (tgt := 63) hx hb d_Mo_write_59 rfl ?_
          refine lv_iadd hx hb d_Mo_write_63 ?_
          refine lv_topi (fun cz ez => ?_)
          obtain rfl : cz = nI n := ez.trans (by simp)
          refine lv_istore_n (lv' := [(3, .int (nI n)), (5, .int (((ch >>> ((8 * (nI k)).toInt64 &&& 63)) &&& 255).toInt32)), (0, .ref h0), (1, .long ch), (4, .int (nI k))]) hx hb d_Mo_write_64 rfl hl (by decide) rfl (fun ls hl => ?_)
          refine lv_iinc (k := 4) (v := nI (k + 1)) (lv' := [(4, .int (nI (k + 1))), (3, .int (nI n)), (5, .int (((ch >>> ((8 * (nI k)).toInt64 &&& 63)) &&& 255).toInt32)), (0, .ref h0), (1, .long ch)]) hx hb d_Mo_write_65 hl rfl (nI_succ k).symm (by decide) rfl (fun ls hl => ?_)
          refine lv_goto (tgt := 10) hx hb d_Mo_write_68 rfl ?_
          exact ih10 (k + 1) n ls H locs (by omega) (by omega) (by rw [mwA_s (by omega), if_pos (show mcd_ ch k = 0 from ht5)] at hg; rw [show 8 - (k + 1) = 8 - k - 1 by omega]; exact hg) (by omega) (lv_sub hl [3, 4, 1, 0] rfl) hW
        · refine lv_iload hx hb d_Mo_write_36 (lv_at hl 0 rfl) ?_
          refine lv_bipush (v := 32) hx hb d_Mo_write_38 (by decide) ?_
          refine lv_icmp_lt (tgt := 50) hx hb d_Mo_write_40 rfl (fun ht7 => ?_) (fun hf8 => ?_)
          · refine lv_iconst (v := 0) hx hb d_Mo_write_50 (by decide) ?_
            exact Ct.zret hx hb hr hnl hW (by decide) (by decide) d_Mo_write_51 (by decide) (by
          rw [mwA_s (by omega), if_neg (show ¬ mcd_ ch k = 0 from hf6), if_pos (show mcd_ ch k < 32 from ht7)] at hg
          have e : mwR ch L f0 = (0, L, f0) := by unfold mwR; rw [← hg]
          rw [e]
          exact ⟨rfl, rfl⟩)
          · refine lv_iload hx hb d_Mo_write_43 (lv_at hl 0 rfl) ?_
            refine lv_bipush (v := 126) hx hb d_Mo_write_45 (by decide) ?_
            refine lv_icmp_le (tgt := 52) hx hb d_Mo_write_47 rfl (fun ht9 => ?_) (fun hf10 => ?_)
            · refine lv_iload_n hx hb d_Mo_write_52 rfl (lv_at hl 3 rfl) ?_
              refine lv_iload hx hb d_Mo_write_53 (lv_at hl 0 rfl) ?_
              refine lv_if_ne (tgt := 62) hx hb d_Mo_write_55 rfl (fun _ => ?_) (fun hz => absurd hz hf6)
              refine lv_iconst (v := 1) hx hb d_Mo_write_62 (by decide) ?_
              refine lv_iadd hx hb d_Mo_write_63 ?_
              refine lv_topi (fun cz ez => ?_)
              obtain rfl : cz = nI (n + 1) := ez.trans (nI_succ n).symm
              refine lv_istore_n (lv' := [(3, .int (nI (n + 1))), (5, .int (((ch >>> ((8 * (nI k)).toInt64 &&& 63)) &&& 255).toInt32)), (0, .ref h0), (1, .long ch), (4, .int (nI k))]) hx hb d_Mo_write_64 rfl hl (by decide) rfl (fun ls hl => ?_)
              refine lv_iinc (k := 4) (v := nI (k + 1)) (lv' := [(4, .int (nI (k + 1))), (3, .int (nI (n + 1))), (5, .int (((ch >>> ((8 * (nI k)).toInt64 &&& 63)) &&& 255).toInt32)), (0, .ref h0), (1, .long ch)]) hx hb d_Mo_write_65 hl rfl (nI_succ k).symm (by decide) rfl (fun ls hl => ?_)
              refine lv_goto (tgt := 10) hx hb d_Mo_write_68 rfl ?_
              exact ih10 (k + 1) (n + 1) ls H locs (by omega) (by omega) (by rw [mwA_s (by omega), if_neg (show ¬ mcd_ ch k = 0 from hf6), if_neg (show ¬ mcd_ ch k < 32 from hf8), if_pos (show mcd_ ch k ≤ 126 from ht9)] at hg; rw [show 8 - (k + 1) = 8 - k - 1 by omega]; exact hg) (by omega) (lv_sub hl [3, 4, 1, 0] rfl) hW
            · refine lv_iconst (v := 0) hx hb d_Mo_write_50 (by decide) ?_
              exact Ct.zret hx hb hr hnl hW (by decide) (by decide) d_Mo_write_51 (by decide) (by
          rw [mwA_s (by omega), if_neg (show ¬ mcd_ ch k = 0 from hf6), if_neg (show ¬ mcd_ ch k < 32 from hf8), if_neg (show ¬ mcd_ ch k ≤ 126 from hf10)] at hg
          have e : mwR ch L f0 = (0, L, f0) := by unfold mwR; rw [← hg]
          rw [e]
          exact ⟨rfl, rfl⟩)
  exact loop10 (_ + 1) 0 0 ls H locs (Nat.zero_le _) (Nat.le_refl _) rfl (Nat.lt_succ_self _) (lv_sub hl [2, 3, 1, 0] rfl) hW

abbrev rm_Mo_wipe : Room := { frames := 0, cells := 0, slots := 0, locals := 0 }
set_option maxHeartbeats 4000000 in
set_option maxRecDepth 100000 in
theorem c_Mo_wipe (l : Launch) (G : Gt) (h0 : Nat) (mcd : Int32) (mty : Int32) (mtx : Nat) (mpl : Int32) (mth : Int32) (mln : Int32) (msc : Nat) (mfr : Int32) (mdr : Nat) (mcm : Int32) (mop : Int32) (mkd : Int32) (mbg : Int32) (mnd : Int32) (mam : Int32) (mis : Nat) (mip : Nat) (msd : Nat) (mrg : Nat) (mmn : Int32) (mou : Nat) : Ct l G y_Mo_wipe b_Mo_wipe 2 (some .int) rm_Mo_wipe [.ref h0] [(h0, .inr (1, [.int mcd, .int mty, .ref mtx, .int mpl, .int mth, .int mln, .ref msc, .int mfr, .ref mdr, .int mcm, .int mop, .int mkd, .int mbg, .int mnd, .int mam, .ref mis, .ref mip, .ref msd, .ref mrg, .int mmn, .ref mou]))] 0 0 (fun v w' => v = some (.int mty) ∧ w' = [(h0, .inr (1, [.int 0, .int 0, .ref mtx, .int mpl, .int mth, .int mln, .ref msc, .int mfr, .ref mdr, .int mcm, .int mop, .int mkd, .int mbg, .int mnd, .int mam, .ref mis, .ref mip, .ref msd, .ref mrg, .int mmn, .ref mou]))]) := by
  refine Ct.of (by decide) (Nat.le_of_ble_eq_true rfl) (fun p e s m args below meth c A ls H locs hx hb hml hr hnl hown hts hnm hK hA hl hW => ?_)
  have hl : lv_has ls 2 [(0, .ref h0)] := hl
  refine lv_aload_n hx hb d_Mo_wipe_0 rfl (lv_at hl 0 rfl) ?_
  refine lv_iconst (v := 0) hx hb d_Mo_wipe_1 (by decide) ?_
  refine Wd.put hx hb hts hown hK hW 0 0 in_Mo t_Mo_ok n_Mo w_fl_Mo_40 (by decide) d_Mo_wipe_2 rfl rfl rfl rfl rfl (Nat.le_of_ble_eq_true rfl) (fun H locs hW => ?_)
  have hW : Wd G A s.heap [(h0, .inr (1, [.int 0, .int mty, .ref mtx, .int mpl, .int mth, .int mln, .ref msc, .int mfr, .ref mdr, .int mcm, .int mop, .int mkd, .int mbg, .int mnd, .int mam, .ref mis, .ref mip, .ref msd, .ref mrg, .int mmn, .ref mou]))] H locs := hW
  refine lv_aload_n hx hb d_Mo_wipe_5 rfl (lv_at hl 0 rfl) ?_
  refine Wd.get hx hb hts hown hK hW 0 1 in_Mo w_fl_Mo_45 (by decide) d_Mo_wipe_6 rfl rfl rfl ?_
  refine lv_istore_n (lv' := [(1, .int mty), (0, .ref h0)]) hx hb d_Mo_wipe_9 rfl hl (by decide) rfl (fun ls hl => ?_)
  refine lv_aload_n hx hb d_Mo_wipe_10 rfl (lv_at hl 1 rfl) ?_
  refine lv_iconst (v := 0) hx hb d_Mo_wipe_11 (by decide) ?_
  refine Wd.put hx hb hts hown hK hW 0 1 in_Mo t_Mo_ok n_Mo w_fl_Mo_45 (by decide) d_Mo_wipe_12 rfl rfl rfl rfl rfl (Nat.le_of_ble_eq_true rfl) (fun H locs hW => ?_)
  have hW : Wd G A s.heap [(h0, .inr (1, [.int 0, .int 0, .ref mtx, .int mpl, .int mth, .int mln, .ref msc, .int mfr, .ref mdr, .int mcm, .int mop, .int mkd, .int mbg, .int mnd, .int mam, .ref mis, .ref mip, .ref msd, .ref mrg, .int mmn, .ref mou]))] H locs := hW
  refine lv_iload_n hx hb d_Mo_wipe_15 rfl (lv_at hl 0 rfl) ?_
  exact Ct.iret hx hb hr hnl hW (by decide) (by decide) d_Mo_wipe_16 ⟨rfl, rfl⟩

abbrev rm_Mo_place : Room := { frames := 0, cells := 0, slots := 0, locals := 0 }
set_option maxHeartbeats 4000000 in
set_option maxRecDepth 100000 in
theorem c_Mo_place (l : Launch) (G : Gt) (h0 : Nat) (mcd : Int32) (mty : Int32) (mtx : Nat) (mpl : Int32) (mth : Int32) (mln : Int32) (msc : Nat) (mfr : Int32) (mdr : Nat) (mcm : Int32) (mop : Int32) (mkd : Int32) (mbg : Int32) (mnd : Int32) (mam : Int32) (mis : Nat) (mip : Nat) (msd : Nat) (mrg : Nat) (mmn : Int32) (mou : Nat) : Ct l G y_Mo_place b_Mo_place 1 (some .int) rm_Mo_place [.ref h0] [(h0, .inr (1, [.int mcd, .int mty, .ref mtx, .int mpl, .int mth, .int mln, .ref msc, .int mfr, .ref mdr, .int mcm, .int mop, .int mkd, .int mbg, .int mnd, .int mam, .ref mis, .ref mip, .ref msd, .ref mrg, .int mmn, .ref mou]))] 0 0 (fun v w' => v = some (.int mpl) ∧ w' = [(h0, .inr (1, [.int 0, .int mty, .ref mtx, .int mpl, .int mth, .int mln, .ref msc, .int mfr, .ref mdr, .int mcm, .int mop, .int mkd, .int mbg, .int mnd, .int mam, .ref mis, .ref mip, .ref msd, .ref mrg, .int mmn, .ref mou]))]) := by
  refine Ct.of (by decide) (Nat.le_of_ble_eq_true rfl) (fun p e s m args below meth c A ls H locs hx hb hml hr hnl hown hts hnm hK hA hl hW => ?_)
  have hl : lv_has ls 1 [(0, .ref h0)] := hl
  refine lv_aload_n hx hb d_Mo_place_0 rfl (lv_at hl 0 rfl) ?_
  refine lv_iconst (v := 0) hx hb d_Mo_place_1 (by decide) ?_
  refine Wd.put hx hb hts hown hK hW 0 0 in_Mo t_Mo_ok n_Mo w_fl_Mo_40 (by decide) d_Mo_place_2 rfl rfl rfl rfl rfl (Nat.le_of_ble_eq_true rfl) (fun H locs hW => ?_)
  have hW : Wd G A s.heap [(h0, .inr (1, [.int 0, .int mty, .ref mtx, .int mpl, .int mth, .int mln, .ref msc, .int mfr, .ref mdr, .int mcm, .int mop, .int mkd, .int mbg, .int mnd, .int mam, .ref mis, .ref mip, .ref msd, .ref mrg, .int mmn, .ref mou]))] H locs := hW
  refine lv_aload_n hx hb d_Mo_place_5 rfl (lv_at hl 0 rfl) ?_
  refine Wd.get hx hb hts hown hK hW 0 3 in_Mo w_fl_Mo_13 (by decide) d_Mo_place_6 rfl rfl rfl ?_
  exact Ct.iret hx hb hr hnl hW (by decide) (by decide) d_Mo_place_9 ⟨rfl, rfl⟩

abbrev rm_Mo_thrown : Room := { frames := 0, cells := 0, slots := 0, locals := 0 }
set_option maxHeartbeats 4000000 in
set_option maxRecDepth 100000 in
theorem c_Mo_thrown (l : Launch) (G : Gt) (h0 : Nat) (mcd : Int32) (mty : Int32) (mtx : Nat) (mpl : Int32) (mth : Int32) (mln : Int32) (msc : Nat) (mfr : Int32) (mdr : Nat) (mcm : Int32) (mop : Int32) (mkd : Int32) (mbg : Int32) (mnd : Int32) (mam : Int32) (mis : Nat) (mip : Nat) (msd : Nat) (mrg : Nat) (mmn : Int32) (mou : Nat) : Ct l G y_Mo_thrown b_Mo_thrown 1 (some .int) rm_Mo_thrown [.ref h0] [(h0, .inr (1, [.int mcd, .int mty, .ref mtx, .int mpl, .int mth, .int mln, .ref msc, .int mfr, .ref mdr, .int mcm, .int mop, .int mkd, .int mbg, .int mnd, .int mam, .ref mis, .ref mip, .ref msd, .ref mrg, .int mmn, .ref mou]))] 0 0 (fun v w' => v = some (.int mcd) ∧ w' = [(h0, .inr (1, [.int mcd, .int mty, .ref mtx, .int mpl, .int mth, .int mln, .ref msc, .int mfr, .ref mdr, .int mcm, .int mop, .int mkd, .int mbg, .int mnd, .int mam, .ref mis, .ref mip, .ref msd, .ref mrg, .int mmn, .ref mou]))]) := by
  refine Ct.of (by decide) (Nat.le_of_ble_eq_true rfl) (fun p e s m args below meth c A ls H locs hx hb hml hr hnl hown hts hnm hK hA hl hW => ?_)
  have hl : lv_has ls 1 [(0, .ref h0)] := hl
  refine lv_aload_n hx hb d_Mo_thrown_0 rfl (lv_at hl 0 rfl) ?_
  refine Wd.get hx hb hts hown hK hW 0 0 in_Mo w_fl_Mo_40 (by decide) d_Mo_thrown_1 rfl rfl rfl ?_
  exact Ct.iret hx hb hr hnl hW (by decide) (by decide) d_Mo_thrown_4 ⟨rfl, rfl⟩

abbrev rm_Mo_init : Room := { frames := 1, cells := 8, slots := 981, locals := 12 }
set_option maxHeartbeats 4000000 in
set_option maxRecDepth 100000 in
theorem c_Mo_init (l : Launch) (G : Gt) (h0 : Nat) : Ct l G y_Mo_init b_Mo_init 1 none rm_Mo_init [.ref h0] [(h0, .inr (1, [.int 0, .int 0, .null, .int 0, .int 0, .int 0, .null, .int 0, .null, .int 0, .int 0, .int 0, .int 0, .int 0, .int 0, .null, .null, .null, .null, .int 0, .null]))] 8 981 (fun v w' => ∃ (q1 : Nat) (q2 : Nat) (q3 : Nat) (q4 : Nat) (q5 : Nat) (q6 : Nat) (q7 : Nat) (q8 : Nat), v = none ∧ w' = [(h0, .inr (1, [.int 0, .int 0, .ref q1, .int (-1), .int 0, .int 0, .ref q2, .int 0, .ref q3, .int 0, .int 0, .int 0, .int 0, .int 0, .int 0, .ref q4, .ref q5, .ref q6, .ref q7, .int 0, .ref q8])), (q1, .inl (G.2 2, 120, .inl (fun _ => 0))), (q2, .inl (G.2 0, 400, .inl (fun _ => 0))), (q3, .inl (G.2 0, 400, .inl (fun _ => 0))), (q4, .inl (G.2 3, 8, .inl (fun _ => 0))), (q5, .inl (G.2 0, 8, .inl (fun _ => 0))), (q6, .inl (G.2 3, 3, .inl (fun _ => 0))), (q7, .inl (G.2 0, 26, .inl (fun _ => 0))), (q8, .inl (G.2 0, 16, .inl (fun _ => 0)))]) := by
  refine Ct.of (by decide) (Nat.le_of_ble_eq_true rfl) (fun p e s m args below meth c A ls H locs hx hb hml hr hnl hown hts hnm hK hA hl hW => ?_)
  have hl : lv_has ls 1 [(0, .ref h0)] := hl
  refine lv_aload_n hx hb d_Mo_init_0 rfl (lv_at hl 0 rfl) ?_
  refine W.objInit hx hb hown (hts _ w_ml_Mo_1) (hts _ w_oi_im) (hts _ w_oi_code) rfl (by rw [hml]; exact hl.1) rfl d_Mo_init_1 (Nat.le_of_ble_eq_true rfl) (Nat.le_of_ble_eq_true rfl) ?_
  refine W.eq (g2 := F0 m 4 ls []) rfl ?_
  refine lv_aload_n hx hb d_Mo_init_4 rfl (lv_at hl 0 rfl) ?_
  refine lv_bipush (v := 120) hx hb d_Mo_init_5 (by decide) ?_
  refine Wd.newa (ty := .char) (N' := 120) (a0 := (120, .inl (fun _ => 0))) hx hb hts hK hA hW 2 w_arr_char d_Mo_init_7 rfl rfl (fun _ _ h => h) (fun _ => rfl) (by decide) (by decide) (by decide) (by decide) (by decide) (fun q1 H hW => ?_)
  have hW : Wd G A s.heap [(h0, .inr (1, [.int 0, .int 0, .null, .int 0, .int 0, .int 0, .null, .int 0, .null, .int 0, .int 0, .int 0, .int 0, .int 0, .int 0, .null, .null, .null, .null, .int 0, .null])), (q1, .inl (G.2 2, 120, .inl (fun _ => 0)))] H locs := hW
  refine W.widen (k := 1) (n := 120) (by decide) (by decide) ?_
  refine Wd.putF hx hb hts hown hK hW 0 2 in_Mo t_Mo_ok n_Mo w_fl_Mo_7 (by decide) d_Mo_init_9 rfl rfl rfl hnm rfl rfl rfl (Nat.le_of_ble_eq_true rfl) (fun H locs hW => ?_)
  have hW : Wd G A s.heap [(h0, .inr (1, [.int 0, .int 0, .ref q1, .int 0, .int 0, .int 0, .null, .int 0, .null, .int 0, .int 0, .int 0, .int 0, .int 0, .int 0, .null, .null, .null, .null, .int 0, .null])), (q1, .inl (G.2 2, 120, .inl (fun _ => 0)))] H locs := hW
  refine lv_aload_n hx hb d_Mo_init_12 rfl (lv_at hl 0 rfl) ?_
  refine lv_iconst (v := (-1)) hx hb d_Mo_init_13 (by decide) ?_
  refine Wd.put hx hb hts hown hK hW 0 3 in_Mo t_Mo_ok n_Mo w_fl_Mo_13 (by decide) d_Mo_init_14 rfl rfl rfl rfl rfl (Nat.le_of_ble_eq_true rfl) (fun H locs hW => ?_)
  have hW : Wd G A s.heap [(h0, .inr (1, [.int 0, .int 0, .ref q1, .int (-1), .int 0, .int 0, .null, .int 0, .null, .int 0, .int 0, .int 0, .int 0, .int 0, .int 0, .null, .null, .null, .null, .int 0, .null])), (q1, .inl (G.2 2, 120, .inl (fun _ => 0)))] H locs := hW
  refine lv_aload_n hx hb d_Mo_init_17 rfl (lv_at hl 0 rfl) ?_
  refine lv_sipush (v := 400) hx hb d_Mo_init_18 (by decide) ?_
  refine Wd.newa (ty := .int) (N' := 400) (a0 := (400, .inl (fun _ => 0))) hx hb hts hK hA hW 0 w_arr_int d_Mo_init_21 rfl rfl (fun _ _ h => h) (fun _ => rfl) (by decide) (by decide) (by decide) (by decide) (by decide) (fun q2 H hW => ?_)
  have hW : Wd G A s.heap [(h0, .inr (1, [.int 0, .int 0, .ref q1, .int (-1), .int 0, .int 0, .null, .int 0, .null, .int 0, .int 0, .int 0, .int 0, .int 0, .int 0, .null, .null, .null, .null, .int 0, .null])), (q1, .inl (G.2 2, 120, .inl (fun _ => 0))), (q2, .inl (G.2 0, 400, .inl (fun _ => 0)))] H locs := hW
  refine W.widen (k := 2) (n := 520) (by decide) (by decide) ?_
  refine Wd.putF hx hb hts hown hK hW 0 6 in_Mo t_Mo_ok n_Mo w_fl_Mo_17 (by decide) d_Mo_init_23 rfl rfl rfl hnm rfl rfl rfl (Nat.le_of_ble_eq_true rfl) (fun H locs hW => ?_)
  have hW : Wd G A s.heap [(h0, .inr (1, [.int 0, .int 0, .ref q1, .int (-1), .int 0, .int 0, .ref q2, .int 0, .null, .int 0, .int 0, .int 0, .int 0, .int 0, .int 0, .null, .null, .null, .null, .int 0, .null])), (q1, .inl (G.2 2, 120, .inl (fun _ => 0))), (q2, .inl (G.2 0, 400, .inl (fun _ => 0)))] H locs := hW
  refine lv_aload_n hx hb d_Mo_init_26 rfl (lv_at hl 0 rfl) ?_
  refine lv_sipush (v := 400) hx hb d_Mo_init_27 (by decide) ?_
  refine Wd.newa (ty := .int) (N' := 400) (a0 := (400, .inl (fun _ => 0))) hx hb hts hK hA hW 0 w_arr_int d_Mo_init_30 rfl rfl (fun _ _ h => h) (fun _ => rfl) (by decide) (by decide) (by decide) (by decide) (by decide) (fun q3 H hW => ?_)
  have hW : Wd G A s.heap [(h0, .inr (1, [.int 0, .int 0, .ref q1, .int (-1), .int 0, .int 0, .ref q2, .int 0, .null, .int 0, .int 0, .int 0, .int 0, .int 0, .int 0, .null, .null, .null, .null, .int 0, .null])), (q1, .inl (G.2 2, 120, .inl (fun _ => 0))), (q2, .inl (G.2 0, 400, .inl (fun _ => 0))), (q3, .inl (G.2 0, 400, .inl (fun _ => 0)))] H locs := hW
  refine W.widen (k := 3) (n := 920) (by decide) (by decide) ?_
  refine Wd.putF hx hb hts hown hK hW 0 8 in_Mo t_Mo_ok n_Mo w_fl_Mo_21 (by decide) d_Mo_init_32 rfl rfl rfl hnm rfl rfl rfl (Nat.le_of_ble_eq_true rfl) (fun H locs hW => ?_)
  have hW : Wd G A s.heap [(h0, .inr (1, [.int 0, .int 0, .ref q1, .int (-1), .int 0, .int 0, .ref q2, .int 0, .ref q3, .int 0, .int 0, .int 0, .int 0, .int 0, .int 0, .null, .null, .null, .null, .int 0, .null])), (q1, .inl (G.2 2, 120, .inl (fun _ => 0))), (q2, .inl (G.2 0, 400, .inl (fun _ => 0))), (q3, .inl (G.2 0, 400, .inl (fun _ => 0)))] H locs := hW
  refine lv_aload_n hx hb d_Mo_init_35 rfl (lv_at hl 0 rfl) ?_
  refine lv_bipush (v := 8) hx hb d_Mo_init_36 (by decide) ?_
  refine Wd.newa (ty := .boolean) (N' := 8) (a0 := (8, .inl (fun _ => 0))) hx hb hts hK hA hW 3 w_arr_boolean d_Mo_init_38 rfl rfl (fun _ _ h => h) (fun _ => rfl) (by decide) (by decide) (by decide) (by decide) (by decide) (fun q4 H hW => ?_)
  have hW : Wd G A s.heap [(h0, .inr (1, [.int 0, .int 0, .ref q1, .int (-1), .int 0, .int 0, .ref q2, .int 0, .ref q3, .int 0, .int 0, .int 0, .int 0, .int 0, .int 0, .null, .null, .null, .null, .int 0, .null])), (q1, .inl (G.2 2, 120, .inl (fun _ => 0))), (q2, .inl (G.2 0, 400, .inl (fun _ => 0))), (q3, .inl (G.2 0, 400, .inl (fun _ => 0))), (q4, .inl (G.2 3, 8, .inl (fun _ => 0)))] H locs := hW
  refine W.widen (k := 4) (n := 928) (by decide) (by decide) ?_
  refine Wd.putF hx hb hts hown hK hW 0 15 in_Mo t_Mo_ok n_Mo w_fl_Mo_24 (by decide) d_Mo_init_40 rfl rfl rfl hnm rfl rfl rfl (Nat.le_of_ble_eq_true rfl) (fun H locs hW => ?_)
  have hW : Wd G A s.heap [(h0, .inr (1, [.int 0, .int 0, .ref q1, .int (-1), .int 0, .int 0, .ref q2, .int 0, .ref q3, .int 0, .int 0, .int 0, .int 0, .int 0, .int 0, .ref q4, .null, .null, .null, .int 0, .null])), (q1, .inl (G.2 2, 120, .inl (fun _ => 0))), (q2, .inl (G.2 0, 400, .inl (fun _ => 0))), (q3, .inl (G.2 0, 400, .inl (fun _ => 0))), (q4, .inl (G.2 3, 8, .inl (fun _ => 0)))] H locs := hW
  refine lv_aload_n hx hb d_Mo_init_43 rfl (lv_at hl 0 rfl) ?_
  refine lv_bipush (v := 8) hx hb d_Mo_init_44 (by decide) ?_
  refine Wd.newa (ty := .int) (N' := 8) (a0 := (8, .inl (fun _ => 0))) hx hb hts hK hA hW 0 w_arr_int d_Mo_init_46 rfl rfl (fun _ _ h => h) (fun _ => rfl) (by decide) (by decide) (by decide) (by decide) (by decide) (fun q5 H hW => ?_)
  have hW : Wd G A s.heap [(h0, .inr (1, [.int 0, .int 0, .ref q1, .int (-1), .int 0, .int 0, .ref q2, .int 0, .ref q3, .int 0, .int 0, .int 0, .int 0, .int 0, .int 0, .ref q4, .null, .null, .null, .int 0, .null])), (q1, .inl (G.2 2, 120, .inl (fun _ => 0))), (q2, .inl (G.2 0, 400, .inl (fun _ => 0))), (q3, .inl (G.2 0, 400, .inl (fun _ => 0))), (q4, .inl (G.2 3, 8, .inl (fun _ => 0))), (q5, .inl (G.2 0, 8, .inl (fun _ => 0)))] H locs := hW
  refine W.widen (k := 5) (n := 936) (by decide) (by decide) ?_
  refine Wd.putF hx hb hts hown hK hW 0 16 in_Mo t_Mo_ok n_Mo w_fl_Mo_28 (by decide) d_Mo_init_48 rfl rfl rfl hnm rfl rfl rfl (Nat.le_of_ble_eq_true rfl) (fun H locs hW => ?_)
  have hW : Wd G A s.heap [(h0, .inr (1, [.int 0, .int 0, .ref q1, .int (-1), .int 0, .int 0, .ref q2, .int 0, .ref q3, .int 0, .int 0, .int 0, .int 0, .int 0, .int 0, .ref q4, .ref q5, .null, .null, .int 0, .null])), (q1, .inl (G.2 2, 120, .inl (fun _ => 0))), (q2, .inl (G.2 0, 400, .inl (fun _ => 0))), (q3, .inl (G.2 0, 400, .inl (fun _ => 0))), (q4, .inl (G.2 3, 8, .inl (fun _ => 0))), (q5, .inl (G.2 0, 8, .inl (fun _ => 0)))] H locs := hW
  refine lv_aload_n hx hb d_Mo_init_51 rfl (lv_at hl 0 rfl) ?_
  refine lv_iconst (v := 3) hx hb d_Mo_init_52 (by decide) ?_
  refine Wd.newa (ty := .boolean) (N' := 3) (a0 := (3, .inl (fun _ => 0))) hx hb hts hK hA hW 3 w_arr_boolean d_Mo_init_53 rfl rfl (fun _ _ h => h) (fun _ => rfl) (by decide) (by decide) (by decide) (by decide) (by decide) (fun q6 H hW => ?_)
  have hW : Wd G A s.heap [(h0, .inr (1, [.int 0, .int 0, .ref q1, .int (-1), .int 0, .int 0, .ref q2, .int 0, .ref q3, .int 0, .int 0, .int 0, .int 0, .int 0, .int 0, .ref q4, .ref q5, .null, .null, .int 0, .null])), (q1, .inl (G.2 2, 120, .inl (fun _ => 0))), (q2, .inl (G.2 0, 400, .inl (fun _ => 0))), (q3, .inl (G.2 0, 400, .inl (fun _ => 0))), (q4, .inl (G.2 3, 8, .inl (fun _ => 0))), (q5, .inl (G.2 0, 8, .inl (fun _ => 0))), (q6, .inl (G.2 3, 3, .inl (fun _ => 0)))] H locs := hW
  refine W.widen (k := 6) (n := 939) (by decide) (by decide) ?_
  refine Wd.putF hx hb hts hown hK hW 0 17 in_Mo t_Mo_ok n_Mo w_fl_Mo_31 (by decide) d_Mo_init_55 rfl rfl rfl hnm rfl rfl rfl (Nat.le_of_ble_eq_true rfl) (fun H locs hW => ?_)
  have hW : Wd G A s.heap [(h0, .inr (1, [.int 0, .int 0, .ref q1, .int (-1), .int 0, .int 0, .ref q2, .int 0, .ref q3, .int 0, .int 0, .int 0, .int 0, .int 0, .int 0, .ref q4, .ref q5, .ref q6, .null, .int 0, .null])), (q1, .inl (G.2 2, 120, .inl (fun _ => 0))), (q2, .inl (G.2 0, 400, .inl (fun _ => 0))), (q3, .inl (G.2 0, 400, .inl (fun _ => 0))), (q4, .inl (G.2 3, 8, .inl (fun _ => 0))), (q5, .inl (G.2 0, 8, .inl (fun _ => 0))), (q6, .inl (G.2 3, 3, .inl (fun _ => 0)))] H locs := hW
  refine lv_aload_n hx hb d_Mo_init_58 rfl (lv_at hl 0 rfl) ?_
  refine lv_bipush (v := 26) hx hb d_Mo_init_59 (by decide) ?_
  refine Wd.newa (ty := .int) (N' := 26) (a0 := (26, .inl (fun _ => 0))) hx hb hts hK hA hW 0 w_arr_int d_Mo_init_61 rfl rfl (fun _ _ h => h) (fun _ => rfl) (by decide) (by decide) (by decide) (by decide) (by decide) (fun q7 H hW => ?_)
  have hW : Wd G A s.heap [(h0, .inr (1, [.int 0, .int 0, .ref q1, .int (-1), .int 0, .int 0, .ref q2, .int 0, .ref q3, .int 0, .int 0, .int 0, .int 0, .int 0, .int 0, .ref q4, .ref q5, .ref q6, .null, .int 0, .null])), (q1, .inl (G.2 2, 120, .inl (fun _ => 0))), (q2, .inl (G.2 0, 400, .inl (fun _ => 0))), (q3, .inl (G.2 0, 400, .inl (fun _ => 0))), (q4, .inl (G.2 3, 8, .inl (fun _ => 0))), (q5, .inl (G.2 0, 8, .inl (fun _ => 0))), (q6, .inl (G.2 3, 3, .inl (fun _ => 0))), (q7, .inl (G.2 0, 26, .inl (fun _ => 0)))] H locs := hW
  refine W.widen (k := 7) (n := 965) (by decide) (by decide) ?_
  refine Wd.putF hx hb hts hown hK hW 0 18 in_Mo t_Mo_ok n_Mo w_fl_Mo_34 (by decide) d_Mo_init_63 rfl rfl rfl hnm rfl rfl rfl (Nat.le_of_ble_eq_true rfl) (fun H locs hW => ?_)
  have hW : Wd G A s.heap [(h0, .inr (1, [.int 0, .int 0, .ref q1, .int (-1), .int 0, .int 0, .ref q2, .int 0, .ref q3, .int 0, .int 0, .int 0, .int 0, .int 0, .int 0, .ref q4, .ref q5, .ref q6, .ref q7, .int 0, .null])), (q1, .inl (G.2 2, 120, .inl (fun _ => 0))), (q2, .inl (G.2 0, 400, .inl (fun _ => 0))), (q3, .inl (G.2 0, 400, .inl (fun _ => 0))), (q4, .inl (G.2 3, 8, .inl (fun _ => 0))), (q5, .inl (G.2 0, 8, .inl (fun _ => 0))), (q6, .inl (G.2 3, 3, .inl (fun _ => 0))), (q7, .inl (G.2 0, 26, .inl (fun _ => 0)))] H locs := hW
  refine lv_aload_n hx hb d_Mo_init_66 rfl (lv_at hl 0 rfl) ?_
  refine lv_bipush (v := 16) hx hb d_Mo_init_67 (by decide) ?_
  refine Wd.newa (ty := .int) (N' := 16) (a0 := (16, .inl (fun _ => 0))) hx hb hts hK hA hW 0 w_arr_int d_Mo_init_69 rfl rfl (fun _ _ h => h) (fun _ => rfl) (by decide) (by decide) (by decide) (by decide) (by decide) (fun q8 H hW => ?_)
  have hW : Wd G A s.heap [(h0, .inr (1, [.int 0, .int 0, .ref q1, .int (-1), .int 0, .int 0, .ref q2, .int 0, .ref q3, .int 0, .int 0, .int 0, .int 0, .int 0, .int 0, .ref q4, .ref q5, .ref q6, .ref q7, .int 0, .null])), (q1, .inl (G.2 2, 120, .inl (fun _ => 0))), (q2, .inl (G.2 0, 400, .inl (fun _ => 0))), (q3, .inl (G.2 0, 400, .inl (fun _ => 0))), (q4, .inl (G.2 3, 8, .inl (fun _ => 0))), (q5, .inl (G.2 0, 8, .inl (fun _ => 0))), (q6, .inl (G.2 3, 3, .inl (fun _ => 0))), (q7, .inl (G.2 0, 26, .inl (fun _ => 0))), (q8, .inl (G.2 0, 16, .inl (fun _ => 0)))] H locs := hW
  refine W.widen (k := 8) (n := 981) (by decide) (by decide) ?_
  refine Wd.putF hx hb hts hown hK hW 0 20 in_Mo t_Mo_ok n_Mo w_fl_Mo_37 (by decide) d_Mo_init_71 rfl rfl rfl hnm rfl rfl rfl (Nat.le_of_ble_eq_true rfl) (fun H locs hW => ?_)
  have hW : Wd G A s.heap [(h0, .inr (1, [.int 0, .int 0, .ref q1, .int (-1), .int 0, .int 0, .ref q2, .int 0, .ref q3, .int 0, .int 0, .int 0, .int 0, .int 0, .int 0, .ref q4, .ref q5, .ref q6, .ref q7, .int 0, .ref q8])), (q1, .inl (G.2 2, 120, .inl (fun _ => 0))), (q2, .inl (G.2 0, 400, .inl (fun _ => 0))), (q3, .inl (G.2 0, 400, .inl (fun _ => 0))), (q4, .inl (G.2 3, 8, .inl (fun _ => 0))), (q5, .inl (G.2 0, 8, .inl (fun _ => 0))), (q6, .inl (G.2 3, 3, .inl (fun _ => 0))), (q7, .inl (G.2 0, 26, .inl (fun _ => 0))), (q8, .inl (G.2 0, 16, .inl (fun _ => 0)))] H locs := hW
  exact Ct.vret hx hb hr hnl hW (by decide) (by decide) d_Mo_init_74 ⟨q1, q2, q3, q4, q5, q6, q7, q8, rfl, rfl⟩

