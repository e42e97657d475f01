/-! where the law begins: the tables, the surroundings -/
set_option maxRecDepth 100000 in
set_option maxHeartbeats 4000000 in
theorem start_K {s : State} {args : Array Value} (hts : ∀ w ∈ lw_tbl, w.before args s = true) : ∃ G : Gt, KX G s := by
  have hA : ∀ w ∈ wsA, w.before args s = true := fun w hw => hts w (inT w hw)
  obtain ⟨c0, i0, k0⟩ := u_known (n := 14) hA in_TC (hts (.instantiable "ThreeClerks" 14) (by decide +kernel))
  obtain ⟨c1, i1, k1⟩ := u_known (n := 21) hA in_Mo (hts (.instantiable "ThreeClerksModel" 21) (by decide +kernel))
  obtain ⟨c2, i2, k2⟩ := u_known (n := 2) hA in_Box (hts (.instantiable "ThreeClerks$Box" 2) (by decide +kernel))
  obtain ⟨c3, i3, k3⟩ := u_known (n := 17) hA in_Clerk (hts (.instantiable "ThreeClerks$Clerk" 17) (by decide +kernel))
  obtain ⟨c4, i4, k4⟩ := u_known (n := 5) hA in_Comparison (hts (.instantiable "ThreeClerks$Comparison" 5) (by decide +kernel))
  obtain ⟨c5, i5, k5⟩ := u_known (n := 3) hA in_Office (hts (.instantiable "ThreeClerks$Office" 3) (by decide +kernel))
  obtain ⟨c6, i6, k6⟩ := u_known (n := 3) hA in_Pads (hts (.instantiable "ThreeClerks$Pads" 3) (by decide +kernel))
  obtain ⟨c7, i7, k7⟩ := u_known (n := 3) hA in_Parts (hts (.instantiable "ThreeClerks$Parts" 3) (by decide +kernel))
  obtain ⟨c8, i8, k8⟩ := u_known (n := 4) hA in_Post (hts (.instantiable "ThreeClerks$Post" 4) (by decide +kernel))
  obtain ⟨c9, i9, k9⟩ := u_known (n := 3) hA in_Reader (hts (.instantiable "ThreeClerks$Reader" 3) (by decide +kernel))
  obtain ⟨c10, i10, k10⟩ := u_known (n := 9) hA in_Script (hts (.instantiable "ThreeClerks$Script" 9) (by decide +kernel))
  obtain ⟨c11, i11, k11⟩ := u_known (n := 5) hA in_Tokens (hts (.instantiable "ThreeClerks$Tokens" 5) (by decide +kernel))
  obtain ⟨a0, ka0, co0, f0, g0, h0⟩ := Cond.arrayClass_spec (show (Cond.arrayClass .int).holds args s none s [] = true from hts _ (by decide +kernel))
  obtain ⟨a1, ka1, co1, f1, g1, h1⟩ := Cond.arrayClass_spec (show (Cond.arrayClass .long).holds args s none s [] = true from hts _ (by decide +kernel))
  obtain ⟨a2, ka2, co2, f2, g2, h2⟩ := Cond.arrayClass_spec (show (Cond.arrayClass .char).holds args s none s [] = true from hts _ (by decide +kernel))
  obtain ⟨a3, ka3, co3, f3, g3, h3⟩ := Cond.arrayClass_spec (show (Cond.arrayClass .boolean).holds args s none s [] = true from hts _ (by decide +kernel))
  obtain ⟨a5, ka5, co5, f5, g5, h5⟩ := Cond.arrayClass_spec (show (Cond.arrayClass .byte).holds args s none s [] = true from hts _ (by decide +kernel))
  have hov : (Cond.arrayOver (.object "ThreeClerks$Clerk")).before args s = true := hts _ (by decide +kernel)
  obtain ⟨co4, a4, ka4, e4, -, g4, h4, f4⟩ := Cond.arrayOver_spec (show (Cond.arrayOver (.object "ThreeClerks$Clerk")).holds args s none s [] = true from hov)
  refine ⟨((fun c => ([c0, c1, c2, c3, c4, c5, c6, c7, c8, c9, c10, c11] : List ClassId).getD c 0, fun c => ([i0, i1, i2, i3, i4, i5, i6, i7, i8, i9, i10, i11] : List (Nat → Nat)).getD c (fun _ => 0)), fun k => ([a0, a1, a2, a3, a4, a5] : List ClassId).getD k 0), ⟨?_, ?_⟩, ?_, hov⟩
  · intro c q hq
    have hc : c < 12 := (List.getElem?_eq_some_iff.mp hq).1
    rcases (show c = 0 ∨ c = 1 ∨ c = 2 ∨ c = 3 ∨ c = 4 ∨ c = 5 ∨ c = 6 ∨ c = 7 ∨ c = 8 ∨ c = 9 ∨ c = 10 ∨ c = 11 by omega) with rfl | rfl | rfl | rfl | rfl | rfl | rfl | rfl | rfl | rfl | rfl | rfl
    · cases hq; exact k0
    · cases hq; exact k1
    · cases hq; exact k2
    · cases hq; exact k3
    · cases hq; exact k4
    · cases hq; exact k5
    · cases hq; exact k6
    · cases hq; exact k7
    · cases hq; exact k8
    · cases hq; exact k9
    · cases hq; exact k10
    · cases hq; exact k11
  · intro k q hq
    have hk : k < 6 := (List.getElem?_eq_some_iff.mp hq).1
    rcases (show k = 0 ∨ k = 1 ∨ k = 2 ∨ k = 3 ∨ k = 4 ∨ k = 5 by omega) with rfl | rfl | rfl | rfl | rfl | rfl
    · cases hq; exact ⟨fun N z => ⟨(fun k h => by cases h), ka0, g0, co0, h0⟩, f0⟩
    · cases hq; exact ⟨fun N z => ⟨(fun k h => by cases h), ka1, g1, co1, h1⟩, f1⟩
    · cases hq; exact ⟨fun N z => ⟨(fun k h => by cases h), ka2, g2, co2, h2⟩, f2⟩
    · cases hq; exact ⟨fun N z => ⟨(fun k h => by cases h), ka3, g3, co3, h3⟩, f3⟩
    · cases hq; exact ⟨fun N z => ⟨(fun k h => by cases h), ka4, g4, co4, h4⟩, ka4, co4, g4, h4, e4, f4⟩
    · cases hq; exact ⟨fun N z => ⟨(fun k h => by cases h), ka5, g5, co5, h5⟩, f5⟩
  · intro w hw
    exact va_Nw.of (A := args) (by revert w; decide +kernel) (hts w (by revert w; decide +kernel))
theorem ownT : ∀ q ∈ exL, ∀ w ∈ Bundle.ownAtoms "ThreeClerks" q.1 q.2 tUp, w.onTables = true → w ∈ lw_tbl := by decide +kernel
theorem exCT : ∀ w ∈ exC, w ∈ lw_tbl := by decide +kernel
theorem strT : ∀ i, i < 9 → Cond.stringRef (sOwn i) (sIdx i) (sTx i) ∈ lw_tbl := by decide +kernel
abbrev gvn : List Cond := flatC (Jvm.Cond.and given_1 narrow_1)
abbrev sTm (i : Nat) : Term := .string (sOwn i) (sIdx i)
theorem sX1 : ∀ i, i < 9 → Cond.exactly (sTm i) "java/lang/String" ∈ gvn := by decide +kernel
theorem sX2 : ∀ i, i < 4 → Cond.eq (.field (sTm i) "java/lang/String" "coder" "B") (.int 0) ∈ gvn := by decide +kernel
theorem sX3 : ∀ i, i < 4 → Cond.arrayOf (.field (sTm i) "java/lang/String" "value" "[B") .byte ∈ gvn := by decide +kernel
theorem sX4 : ∀ i, i < 4 → Cond.eq (.length (.field (sTm i) "java/lang/String" "value" "[B")) (.int (Int32.ofNat (sLen.getD i 0))) ∈ gvn := by decide +kernel
theorem sX5 : ∀ i, i < 4 → ∀ j, j < sLen.getD i 0 → Cond.eq (.elem (.field (sTm i) "java/lang/String" "value" "[B") (.int (Int32.ofNat j))) (.int ((sByt.getD i []).getD j 0)) ∈ gvn := by decide +kernel
theorem sX6 : ∀ i, i < 4 → ∀ j, j < 4 → i ≠ j → Cond.not (Cond.eq (sTm i) (sTm j)) ∈ gvn ∨ Cond.not (Cond.eq (sTm j) (sTm i)) ∈ gvn := by decide +kernel
theorem sX7 : Cond.isRef (.static Bundle.tN "UNASSIGNED_STACK" Bundle.steD) ∈ gvn ∧ Cond.isRef (.static Bundle.tN "SUPPRESSED_SENTINEL" Bundle.listD) ∈ gvn ∧ Cond.eq (.static "java/lang/String" "COMPACT_STRINGS" "Z") (.int 1) ∈ gvn := by decide +kernel
theorem sX8 : Cond.laysStatic Bundle.tN "UNASSIGNED_STACK" Bundle.steD ∈ lw_tbl ∧ Cond.laysStatic Bundle.tN "SUPPRESSED_SENTINEL" Bundle.listD ∈ lw_tbl ∧ Cond.laysStatic "java/lang/String" "COMPACT_STRINGS" "Z" ∈ lw_tbl ∧ Cond.initialized "java/lang/String" ∈ lw_tbl := by decide +kernel
theorem sX9 : Cond.isRef (.static siP siF siD) ∈ gvn := by decide +kernel
theorem sX10 : Cond.laysStatic siP siF siD ∈ lw_tbl ∧ Cond.initialized siP ∈ lw_tbl := by decide +kernel
theorem va_Zrf {args : Array Value} {s : State} {C n d : String} {A : Nat → Prop} (hl : (Cond.laysStatic C n d).before args s = true) (hi : (Cond.initialized C).before args s = true) (hr : (Cond.isRef (.static C n d)).before args s = true) (hA : ∀ a : Nat, a < s.heap.size → ¬ A a) : ∃ v : Value, v.isRef = true ∧ va_Z C n d v A s s.heap := by
  obtain ⟨v, hv, h2⟩ := Cond.isRef_spec (show (Cond.isRef (.static C n d)).holds args s none s [] = true from hr)
  exact ⟨v, h2, va_Zof hl hi hv hA⟩
theorem start_E {s : State} {args : Array Value} (hts : ∀ w ∈ lw_tbl, w.before args s = true) (hg : (Jvm.Cond.and given_1 narrow_1).before args s = true) : ∃ V : Ev, EX V (fun q => s.heap.size ≤ q) s s.heap := by
  have hs := flat_of_before _ hg
  have hA : ∀ a : Nat, a < s.heap.size → ¬ (s.heap.size ≤ a) := fun a h => by omega
  obtain ⟨adK, adV, hS, hev⟩ := vk_Sof (A := fun q => s.heap.size ≤ q) (args := args) (s := s) (N := 4) (tm := sTm) (len := sLen) (byt := sByt) (by decide) (fun i hi => hs _ (sX1 i (by omega))) (fun i hi => hs _ (sX2 i hi)) (fun i hi => hs _ (sX3 i hi)) (fun i hi => hs _ (sX4 i hi)) (fun i hi j hj => hs _ (sX5 i hi j hj)) (fun i j hi hj hij => (sX6 i hi j hj hij).imp (hs _) (hs _)) hA
  have hall : ∀ i, ∃ a : Nat, i < 9 → (sTm i).eval args s none [] s = some (.ref a) := by
    intro i
    by_cases hi : i < 9
    · obtain ⟨a, c, cA, kA, q1, -⟩ := Cond.exactly_spec (args := args) (first := s) (o := none) (s := s) (idx := []) (t := sTm i) (cls := "java/lang/String") (hs _ (sX1 i hi))
      exact ⟨a, fun _ => q1⟩
    · exact ⟨0, fun h => absurd h hi⟩
  obtain ⟨ad, had⟩ := Classical.axiomOfChoice hall
  have heq : ∀ i, i < 4 → ad i = adK i := fun i hi => by
    have h1 := had i (by omega)
    rw [hev i hi] at h1
    have h2 := Option.some.inj h1
    injection h2 with h3
    exact h3.symm
  have hS' : vk_S 4 sLen sByt ad adV (fun q => s.heap.size ≤ q) s s.heap := by
    refine ⟨fun i hi => ?_, fun i j hi hj e => ?_⟩
    · rw [heq i hi]; exact hS.1 i hi
    · rw [heq i hi, heq j hj] at e; exact hS.2 i j hi hj e
  refine ⟨(ad, adV), fun q hq w hw ht => va_Nw.of ht (hts w (ownT q hq w hw ht)), fun i hi => vk_R.of (A := args) (hts _ (strT i hi)) (had i hi), ⟨hS', va_Zrf (hts _ sX10.1) (hts _ sX10.2) (hs _ sX9) hA⟩, ZS.of (hts _ sX8.1) (hs _ sX7.1) hA, ZS.of (hts _ sX8.2.1) (hs _ sX7.2.1) hA, va_Zof (hts _ sX8.2.2.1) (hts _ sX8.2.2.2) (va_eqt (hs _ sX7.2.2)) hA, fun w hw => va_Nw.of (exC_ok w hw).1 (hts w (exCT w hw))⟩
