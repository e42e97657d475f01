/-! what stands around the methods that throw, or that read String constants: the exceptions' words, the constants, statics of the JDK -/
def tUp : List String := ["java/lang/RuntimeException", "java/lang/Exception"]
def exL : List (Nat × String) := [(71, "java/lang/IllegalArgumentException"), (110, "java/lang/IllegalStateException"), (136, "java/lang/IndexOutOfBoundsException")]
def sOwn (i : Nat) : String := if i < 4 then "ThreeClerks$Tokens" else "ThreeClerks"
def sIdx (i : Nat) : Nat := ([69, 75, 77, 61, 69, 89, 91, 108, 134] : List Nat).getD i 0
def sTx (i : Nat) : String := (["sort", "sums", "open", "=+-*<?:;$", "the text is no script", "there is no such input", "there is no such seed", "a script, a seed or an input is missing", "there is no such output"] : List String).getD i ""
def sLen : List Nat := [4, 4, 4, 9]
def sByt : List (List Int32) := [[115, 111, 114, 116], [115, 117, 109, 115], [111, 112, 101, 110], [61, 43, 45, 42, 60, 63, 58, 59, 36]]
/-- a static of the class C that nobody writes: it holds v -/
def ZS (C n d : String) (v : Value) (A : Nat → Prop) (U : State) (H : Heap) : Prop := ∃ (c : ClassId) (k : Class) (i : Nat) (f : Field) (a : Nat) (cell : Cell), U.vm.findClass C = some c ∧ U.fieldFound? C n d = some (c, k, i, f) ∧ f.isStatic = true ∧ k.statics = some a ∧ H[a]? = some cell ∧ cell.vm.isStatics = true ∧ cell.cls = c ∧ f.slot < cell.slots.size ∧ k.staticTypes[f.slot]? = some f.type ∧ cell.slots[f.slot]? = some v ∧ ¬ A a
theorem ZS.moved {C n d : String} {v : Value} {A : Nat → Prop} {u U : State} {H : Heap} (hvm : u.vm.Alike U.vm) (h : ZS C n d v A u H) : ZS C n d v A U H := by
  obtain ⟨c, k, i, f, a, cell, h0, h1, h2, h3, h4, h5, h6, h7, h8, h9, h10⟩ := h
  obtain ⟨k', hi', he⟩ := State.fieldFound?_setVm hvm h1
  exact ⟨c, k', i, f, a, cell, by rw [hvm.findClass]; exact h0, hi', h2, by rw [he]; exact h3, h4, h5, h6, h7, by rw [he]; exact h8, h9, h10⟩
theorem ZS.kept {C n d : String} {v : Value} {A : Nat → Prop} {U : State} {H H1 : Heap} (h : ZS C n d v A U H) (hq : ∀ a : Nat, a < H.size → ¬ A a → H1[a]? = H[a]?) : ZS C n d v A U H1 := by
  obtain ⟨c, k, i, f, a, cell, h0, h1, h2, h3, h4, h5, h6, h7, h8, h9, h10⟩ := h
  exact ⟨c, k, i, f, a, cell, h0, h1, h2, h3, by rw [hq a (Array.getElem?_eq_some_iff.mp h4).1 h10]; exact h4, h5, h6, h7, h8, h9, h10⟩
theorem ZS.narrow {C n d : String} {v : Value} {A B : Nat → Prop} {U : State} {H : Heap} (h : ZS C n d v A U H) (hAB : ∀ q, B q → A q) : ZS C n d v B U H := by
  obtain ⟨c, k, i, f, a, cell, h0, h1, h2, h3, h4, h5, h6, h7, h8, h9, h10⟩ := h
  exact ⟨c, k, i, f, a, cell, h0, h1, h2, h3, h4, h5, h6, h7, h8, h9, fun z => h10 (hAB a z)⟩
theorem ZS.of {args : Array Value} {s : State} {C n d : String} {A : Nat → Prop} (hl : (Cond.laysStatic C n d).before args s = true) (hr : (Cond.isRef (.static C n d)).before args s = true) (hA : ∀ a : Nat, a < s.heap.size → ¬ A a) : ∃ v : Value, v.isRef = true ∧ ZS C n d v A s s.heap := by
  obtain ⟨c, k, i, f, a, cell, h0, h1, h2, h3, h4, h5, h6, h7, h8⟩ := Cond.laysStatic_spec (show (Cond.laysStatic C n d).holds args s none s [] = true from hl)
  have hv : cell.slots[f.slot]? = some cell.slots[f.slot] := Array.getElem?_eq_getElem h7
  refine ⟨cell.slots[f.slot], ?_, c, k, i, f, a, cell, h0, h1, h2, h3, h4, h5, h6, h7, h8, hv, hA a (Array.getElem?_eq_some_iff.mp h4).1⟩
  cases hx : cell.slots[f.slot] <;> first | rfl | (exfalso; rw [hx] at hv; simp [Cond.before, Cond.holds, Cond.value, Term.eval, State.fieldNamed?, h1, h2, h3, h4, h5, hv] at hr)
theorem ZS.isRef {C n d : String} {v : Value} {A : Nat → Prop} {U : State} (hr : v.isRef = true) (h : ZS C n d v A U U.heap) (args : Array Value) : (Cond.isRef (.static C n d)).before args U = true := by
  obtain ⟨c, k, i, f, a, cell, h0, h1, h2, h3, h4, h5, h6, h7, h8, h9, h10⟩ := h
  cases v with
  | ref b => simp [Cond.before, Cond.holds, Cond.value, Term.eval, State.fieldNamed?, h1, h2, h3, h4, h5, h9]
  | null => simp [Cond.before, Cond.holds, Cond.value, Term.eval, State.fieldNamed?, h1, h2, h3, h4, h5, h9]
  | _ => cases hr
theorem ZS.lays {C n d : String} {v : Value} {A : Nat → Prop} {U : State} (h : ZS C n d v A U U.heap) (args : Array Value) : (Cond.laysStatic C n d).before args U = true := by
  obtain ⟨c, k, i, f, a, cell, h0, h1, h2, h3, h4, h5, h6, h7, h8, h9, h10⟩ := h
  simp [Cond.before, Cond.holds, Cond.value, h0, h1, h2, h3, h4, h5, h6, h7, h8]
abbrev Ev : Type := (Nat → Nat) × (Nat → Nat)
abbrev b_L1_indexOf : ByteArray := prog_23_method_22_code
def y_L1_indexOf : MethodName := ⟨"java/lang/StringLatin1", "indexOf", "([BIII)I"⟩
theorem yd_L1_indexOf : y_L1_indexOf.cls = "java/lang/StringLatin1" ∧ y_L1_indexOf.cls ≠ "java/lang/invoke/MethodHandle" ∧ y_L1_indexOf.cls ≠ "java/lang/invoke/VarHandle" ∧ (parseMethodDescriptor y_L1_indexOf.desc).map (fun d => d.parameters.length) = some 4 := by decide +kernel
abbrev b_Pre_checkIndex : ByteArray := prog_28_method_11_code
def y_Pre_checkIndex : MethodName := ⟨"jdk/internal/util/Preconditions", "checkIndex", "(IILjava/util/function/BiFunction;)I"⟩
theorem yd_Pre_checkIndex : y_Pre_checkIndex.cls = "jdk/internal/util/Preconditions" ∧ y_Pre_checkIndex.cls ≠ "java/lang/invoke/MethodHandle" ∧ y_Pre_checkIndex.cls ≠ "java/lang/invoke/VarHandle" ∧ (parseMethodDescriptor y_Pre_checkIndex.desc).map (fun d => d.parameters.length) = some 3 := by decide +kernel
def exC : List Cond := [.classLink "ThreeClerksLaw" 13 "java/lang/IllegalArgumentException", .classLink "ThreeClerksLaw" 27 "java/lang/IllegalStateException", .classLink "ThreeClerksLaw" 32 "java/lang/IndexOutOfBoundsException",
  .fieldLink "java/lang/String" 9 "java/lang/String" "value" "[B", .fieldLink "java/lang/String" 15 "java/lang/String" "coder" "B", .fieldLink "java/lang/String" 38 "java/lang/String" "COMPACT_STRINGS" "Z", .fieldLink "java/lang/String" 1053 "jdk/internal/util/Preconditions" "SIOOBE_FORMATTER" "Ljava/util/function/BiFunction;",
  .methodLink "java/lang/String" 335 y_JString_coder, .methodLink "java/lang/String" 492 y_JString_isLatin1, .methodLink "java/lang/String" 495 y_JStringLatin1_charAt, .methodLink "java/lang/String" 633 y_JString_indexOf1, .methodLink "java/lang/String" 505 y_JString_length, .methodLink "java/lang/String" 637 y_L1_indexOf, .methodLink "java/lang/String" 1059 y_Pre_checkIndex,
  .methodLink "java/lang/StringLatin1" 9 y_JString_checkIndex, .methodLink "java/lang/StringLatin1" 88 y_JStringLatin1_canEncode, .methodLink "java/lang/StringLatin1" 92 y_JMath_max, .methodLink "java/lang/StringLatin1" 38 y_JMath_min, .methodLink "java/lang/StringLatin1" 95 y_JStringLatin1_indexOfChar,
  .static y_L1_indexOf, .code y_L1_indexOf b_L1_indexOf 4 (some .int), .static y_Pre_checkIndex, .code y_Pre_checkIndex b_Pre_checkIndex 3 (some .int), .initialized "jdk/internal/util/Preconditions"]
def siF : String := "SIOOBE_FORMATTER"
def siP : String := "jdk/internal/util/Preconditions"
def siD : String := "Ljava/util/function/BiFunction;"
theorem exC_ok : ∀ w ∈ exC, w.onTables = true ∧ w.keepsFace = true := by decide +kernel
def EX (V : Ev) (A : Nat → Prop) (U : State) (H : Heap) : Prop :=
  (∀ q ∈ exL, ∀ w ∈ Bundle.ownAtoms "ThreeClerks" q.1 q.2 tUp, w.onTables = true → va_Nw w U) ∧
  (∀ i, i < 9 → vk_R (sOwn i) (sIdx i) (sTx i) (V.1 i) U) ∧
  (vk_S 4 sLen sByt V.1 V.2 A U H ∧ ∃ v : Value, v.isRef = true ∧ va_Z siP siF siD v A U H) ∧
  (∃ v : Value, v.isRef = true ∧ ZS Bundle.tN "UNASSIGNED_STACK" Bundle.steD v A U H) ∧
  (∃ v : Value, v.isRef = true ∧ ZS Bundle.tN "SUPPRESSED_SENTINEL" Bundle.listD v A U H) ∧
  va_Z "java/lang/String" "COMPACT_STRINGS" "Z" (.int 1) A U H ∧
  (∀ w ∈ exC, va_Nw w U)
theorem EX.warm {V : Ev} {A : Nat → Prop} {s U : State} {H : Heap} (hW : s.WarmedH U.vm) (h : EX V A s H) : EX V A U H := by
  obtain ⟨h1, h2, ⟨h3, v8, r8, z8⟩, ⟨v4, r4, z4⟩, ⟨v5, r5, z5⟩, h6, h7⟩ := h
  refine ⟨fun q hq w hw ht => ?_, fun i hi => (h2 i hi).warm hW, ⟨h3.moved hW.alike, v8, r8, z8.moved hW.alike⟩, ⟨v4, r4, z4.moved hW.alike⟩, ⟨v5, r5, z5.moved hW.alike⟩, h6.moved hW.alike, fun w hw => va_tabs (exC_ok w hw).1 (rfl : (s.setVm U.vm).vm = U.vm) (Cond.before_shiftedFace (args := #[]) (State.Shifted.of_warmed hW) w (exC_ok w hw).2 (h7 w hw))⟩
  exact va_tabs ht (rfl : (s.setVm U.vm).vm = U.vm) (Cond.before_shiftedFace (args := #[]) (State.Shifted.of_warmed hW) w (Bundle.ownAtoms_keepsFace w hw) (h1 q hq w hw ht))
theorem EX.kept {V : Ev} {A : Nat → Prop} {U : State} {H H1 : Heap} (h : EX V A U H) (hq : ∀ a : Nat, a < H.size → ¬ A a → H1[a]? = H[a]?) : EX V A U H1 := by
  obtain ⟨h1, h2, ⟨h3, v8, r8, z8⟩, ⟨v4, r4, z4⟩, ⟨v5, r5, z5⟩, h6, h7⟩ := h
  exact ⟨h1, h2, ⟨h3.kept hq, v8, r8, z8.kept hq⟩, ⟨v4, r4, z4.kept hq⟩, ⟨v5, r5, z5.kept hq⟩, h6.kept hq, h7⟩
theorem EX.narrow {V : Ev} {A B : Nat → Prop} {U : State} {H : Heap} (h : EX V A U H) (hAB : ∀ q, B q → A q) : EX V B U H := by
  obtain ⟨h1, h2, ⟨h3, v8, r8, z8⟩, ⟨v4, r4, z4⟩, ⟨v5, r5, z5⟩, h6, h7⟩ := h
  exact ⟨h1, h2, ⟨h3.narrow hAB, v8, r8, z8.narrow hAB⟩, ⟨v4, r4, z4.narrow hAB⟩, ⟨v5, r5, z5.narrow hAB⟩, h6.narrow hAB, h7⟩
theorem EX.at {V : Ev} {A A' : Nat → Prop} {s U : State} {H : Heap} {locs : List Loc} (h : EX V A s s.heap) (hS : va_S A s.heap H locs) (hA : ∀ q, A' q → A q) (hU : U.heap = H) (hW : s.WarmedH U.vm) : EX V A' U U.heap := by
  rw [hU]
  exact ((h.kept hS.2.1).narrow hA).warm hW
def exR : List Cond := [.isRef (.static Bundle.tN "UNASSIGNED_STACK" Bundle.steD), .isRef (.static Bundle.tN "SUPPRESSED_SENTINEL" Bundle.listD), .laysStatic Bundle.tN "UNASSIGNED_STACK" Bundle.steD, .laysStatic Bundle.tN "SUPPRESSED_SENTINEL" Bundle.listD]
theorem own_tab : ∀ q ∈ exL, ∀ w ∈ Bundle.ownAtoms "ThreeClerks" q.1 q.2 tUp, w.onTables = true ∨ w ∈ exR := by
  decide +kernel
theorem EX.own {V : Ev} {A : Nat → Prop} {U : State} (h : EX V A U U.heap) {ic : Nat} {X : String} (hq : (ic, X) ∈ exL) (args : Array Value) : ∀ w ∈ Bundle.ownAtoms "ThreeClerks" ic X tUp, w.before args U = true := by
  intro w hw
  obtain ⟨h1, -, -, ⟨v4, r4, z4⟩, ⟨v5, r5, z5⟩, -⟩ := h
  rcases own_tab _ hq w hw with ht | ht
  · exact va_Nw.use ht (h1 _ hq w hw ht)
  · simp only [exR, List.mem_cons, List.not_mem_nil, or_false] at ht
    rcases ht with rfl | rfl | rfl | rfl
    · exact z4.isRef r4 args
    · exact z5.isRef r5 args
    · exact z4.lays args
    · exact z5.lays args
/-! a walk's beginning laid at the present heap -/
theorem Stand.rebase {p : Program} {l : Launch} {e : Env} {R : Room} {s : State} {m : MethodId} {args : Array Value} {below : List Frame} {meth : Method} {c : Code} {T : State} {locs : List Loc} {cells slots : Nat} (X : Stand p l e R s m args below meth c T locs cells slots) (hc : cells ≤ R.cells) (hs : slots ≤ R.slots) :
    Stand p l e { R with cells := R.cells - cells, slots := R.slots - slots } (T.setFrames (.invoking m args :: below)) m args below meth c T [] 0 0 := by
  obtain ⟨g0, hfr⟩ := X.frames_eq
  have hcur : T.cur < T.threads.size := State.cur_lt_of_frames hfr
  have hf : (T.setFrames (.invoking m args :: below)).frames = .invoking m args :: below := State.frames_setFrames _ hcur
  have hmth : (T.setFrames (.invoking m args :: below)).vm.method? m = some meth := X.method'
  obtain ⟨t, ht, -⟩ := State.frames_cons hf
  have hlo : (T.setFrames (.invoking m args :: below)).localsInUse = s.localsInUse := by
    rw [State.localsInUse_invoking hf hmth X.code, State.localsInUse_invoking X.frames X.method X.code]
  refine ⟨X.admits, X.cas, X.clock, hf, ?_, ?_, hmth, X.code, X.here, X.tail, State.WarmedH.refl (T.setFrames (.invoking m args :: below)), by rw [State.stackLimits_setFrames], by rw [State.stackBytes_setFrames], ?_⟩
  · have hr := X.room
    have hb := X.book
    have h1 := X.heapSize
    have h2 := X.used
    simp only [State.hasRoom, Bool.and_eq_true, decide_eq_true_eq] at hr ⊢
    obtain ⟨⟨⟨⟨r1, r2, r3, r4, r5, r6⟩, r7⟩, r8⟩, r9⟩ := hr
    rw [X.frames] at r2 r3
    refine ⟨⟨⟨⟨by rw [hlo]; exact r1, by rw [hf]; exact r2, by rw [hf, State.stackLimits_setFrames, X.limits]; exact r3, by rw [hlo]; exact r4, by rw [hlo, State.stackLimits_setFrames, X.limits]; exact r5, by rw [State.stackBytes_setFrames, X.bytes]; exact r6⟩, ?_⟩, ?_⟩, hb⟩
    · show T.heap.size + (R.cells - cells) ≤ _
      omega
    · show T.slotsUsed + (R.slots - slots) ≤ _
      omega
  · have hh := X.hears
    cases below with
    | nil => simpa [State.hears, X.warmed.alike.method?] using hh
    | cons f r => cases f <;> simpa [State.hears, State.code?_eq, X.warmed.alike.method?] using hh
  · have h := (State.sameButNew.refl (T.setFrames (.invoking m args :: below)) ht).setFrames T.frames (State.cur_lt_of_frames hf)
    rw [State.setFrames_setFrames] at h
    obtain ⟨th, hth, -⟩ := State.frames_cons hfr
    rw [State.setFrames_self hth] at h
    exact h
theorem same_keeps {s U : State} {k n : Nat} (h : s.sameButNew U [] k n) (q : Nat) (hq : q < s.heap.size) : U.heap[q]? = s.heap[q]? := by
  obtain ⟨-, -, -, -, -, h6⟩ := h
  obtain ⟨c', a1, a2, a3, a4⟩ := h6 q s.heap[q] (Array.getElem?_eq_getElem hq)
  have e : c'.slots = (s.heap[q]).slots := Array.ext_getElem? (fun i => a4 i (by simp))
  rw [a1, Array.getElem?_eq_getElem hq, a2, e]
