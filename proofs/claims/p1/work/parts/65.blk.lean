/-! blocks: a script, the post, a clerk with what is its own -/
abbrev ScT : Type := (Nat → Int32) × (Nat → Int32) × (Nat → Int32) × (Nat → Int32) × (Nat → Int32) × Int32 × Int32 × Int32 × Int32
abbrev RsT : Type := ScT × ((Nat → Int32) × (Nat → Int64)) × (Int64 × Int64 × Int32)
abbrev PoT : Type := Int32 × (Nat → Int32) × (Nat → Int32) × (Nat → Int64)
def scB (G : Gt) (h : Nat → Nat) (x : ScT) : va_W := [(h 0, .inr (10, [.ref (h 1), .ref (h 2), .ref (h 3), .ref (h 4), .ref (h 5), .int x.2.2.2.2.2.1, .int x.2.2.2.2.2.2.1, .int x.2.2.2.2.2.2.2.1, .int x.2.2.2.2.2.2.2.2])), (h 1, .inl (G.2 0, 132, .inl x.1)), (h 2, .inl (G.2 0, 132, .inl x.2.1)), (h 3, .inl (G.2 0, 132, .inl x.2.2.1)), (h 4, .inl (G.2 0, 132, .inl x.2.2.2.1)), (h 5, .inl (G.2 0, 132, .inl x.2.2.2.2.1))]
def poB (G : Gt) (h : Nat → Nat) (P : PoT) : va_W := [(h 0, .inr (8, [.ref (h 1), .ref (h 2), .ref (h 3), .int P.1])), (h 1, .inl (G.2 0, 16, .inl P.2.1)), (h 2, .inl (G.2 0, 16, .inl P.2.2.1)), (h 3, .inl (G.2 1, 16, .inr (.inl P.2.2.2)))]
def ckF (G : Gt) (h : Nat → Nat) (w : Int32) (S : CkT) (r : RsT) : va_W := [(h 0, .inr (3, [.int w, .ref (h 12), .ref (h 18), .ref (h 21), .ref (h 1), .ref (h 2), .ref (h 3), .ref (h 7), .ref (h 8), .ref (h 9), .ref (h 10), .int S.2.2.2.2.1.1, .int S.2.2.2.2.1.2.1, .int S.2.2.2.2.1.2.2.1, .int S.2.2.2.2.1.2.2.2, .ref (h 11), .int S.2.2.2.2.2.2])), (h 1, .inl (G.2 0, 34, .inl S.1)), (h 2, .inl (G.2 0, 34, .inl S.2.1)), (h 3, .inr (4, [.ref (h 4), .ref (h 5), .ref (h 6), .int S.2.2.2.1.2.2.2.1, .int S.2.2.2.1.2.2.2.2])), (h 4, .inr (7, [.int w, .long S.2.2.2.1.1.1, .long S.2.2.2.1.1.2])), (h 5, .inr (7, [.int w, .long S.2.2.2.1.2.1.1, .long S.2.2.2.1.2.1.2])), (h 6, .inr (7, [.int w, .long S.2.2.2.1.2.2.1.1, .long S.2.2.2.1.2.2.1.2])), (h 7, .inr (7, [.int w, .long S.2.2.1.1.1, .long S.2.2.1.1.2])), (h 8, .inr (7, [.int w, .long S.2.2.1.2.1.1, .long S.2.2.1.2.1.2])), (h 9, .inr (7, [.int w, .long S.2.2.1.2.2.1.1, .long S.2.2.1.2.2.1.2])), (h 10, .inr (7, [.int w, .long S.2.2.1.2.2.2.1, .long S.2.2.1.2.2.2.2])), (h 11, .inl (G.2 0, 16, .inl S.2.2.2.2.2.1)), (h 12, .inr (10, [.ref (h 13), .ref (h 14), .ref (h 15), .ref (h 16), .ref (h 17), .int r.1.2.2.2.2.2.1, .int r.1.2.2.2.2.2.2.1, .int r.1.2.2.2.2.2.2.2.1, .int r.1.2.2.2.2.2.2.2.2])), (h 13, .inl (G.2 0, 132, .inl r.1.1)), (h 14, .inl (G.2 0, 132, .inl r.1.2.1)), (h 15, .inl (G.2 0, 132, .inl r.1.2.2.1)), (h 16, .inl (G.2 0, 132, .inl r.1.2.2.2.1)), (h 17, .inl (G.2 0, 132, .inl r.1.2.2.2.2.1)), (h 18, .inr (2, [.ref (h 19), .ref (h 20)])), (h 19, .inl (G.2 0, 8, .inl r.2.1.1)), (h 20, .inl (G.2 1, 8, .inr (.inl r.2.1.2))), (h 21, .inr (6, [.long r.2.2.1, .long r.2.2.2.1, .int r.2.2.2.2]))]
def zI : Nat → Int32 := fun _ => 0
def zJ : Nat → Int64 := fun _ => 0
def scZ : ScT := (zI, zI, zI, zI, zI, 0, 0, 0, 0)
def poZ : PoT := (0, zI, zI, zJ)
def ckZ0 : CkT := (zI, zI, ((0, 0), (0, 0), (0, 0), (0, 0)), ((0, 0), (0, 0), (0, 0), 6, 0), (0, 0, 0, 0), zI, 0)
def rsZ : RsT := (scZ, (zI, zJ), (0, 0, 0))
set_option maxRecDepth 100000 in
set_option maxHeartbeats 4000000 in
theorem cb_Clerk_init (l : Launch) (G : Gt) (h0 : Nat) (w : Int32) : Ct l G y_Clerk_init b_Clerk_init 2 none rm_Clerk_init [.ref h0, .int w] ([(h0, .inr (3, [.int 0, .null, .null, .null, .null, .null, .null, .null, .null, .null, .null, .int 0, .int 0, .int 0, .int 0, .null, .int 0]))]) 21 800 (fun v w' => ∃ h : Nat → Nat, h 0 = h0 ∧ v = none ∧ w' = ckF G h w ckZ0 rsZ) := by
  refine (c_Clerk_init l G h0 w).weakenP (fun v w' hp => ?_)
  obtain ⟨q1, q2, q3, q4, q5, q6, q7, q8, q9, q10, q11, q12, q13, q14, q15, q16, q17, q18, q19, q20, q21, h1, rfl⟩ := hp
  refine ⟨_, bl_perm (h0, .inr (0, [])) _ [0, 11, 12, 14, 15, 16, 17, 18, 19, 20, 21, 13, 1, 2, 3, 4, 5, 6, 7, 8, 9, 10] (show ([0, 11, 12, 14, 15, 16, 17, 18, 19, 20, 21, 13, 1, 2, 3, 4, 5, 6, 7, 8, 9, 10] : List Nat).Perm (List.range 22) by decide), fun i => ([h0, q11, q12, q14, q15, q16, q17, q18, q19, q20, q21, q13, q1, q2, q3, q4, q5, q6, q7, q8, q9, q10] : List Nat).getD i 0, rfl, h1, rfl⟩
set_option maxRecDepth 100000 in
set_option maxHeartbeats 4000000 in
theorem cb_Post_init (l : Launch) (G : Gt) (h0 : Nat) : Ct l G y_Post_init b_Post_init 1 none rm_Post_init [.ref h0] ([(h0, .inr (8, [.null, .null, .null, .int 0]))]) 3 48 (fun v w' => ∃ h : Nat → Nat, h 0 = h0 ∧ v = none ∧ w' = poB G h poZ) := by
  refine (c_Post_init l G h0).weaken (fun v w' hp => ?_)
  obtain ⟨q1, q2, q3, h1, rfl⟩ := hp
  exact ⟨fun i => ([h0, q1, q2, q3] : List Nat).getD i 0, rfl, h1, rfl⟩
set_option maxRecDepth 100000 in
set_option maxHeartbeats 4000000 in
theorem cb_Script_init (l : Launch) (G : Gt) (h0 : Nat) : Ct l G y_Script_init b_Script_init 1 none rm_Script_init [.ref h0] ([(h0, .inr (10, [.null, .null, .null, .null, .null, .int 0, .int 0, .int 0, .int 0]))]) 5 660 (fun v w' => ∃ h : Nat → Nat, h 0 = h0 ∧ v = none ∧ w' = scB G h scZ) := by
  refine (c_Script_init l G h0).weaken (fun v w' hp => ?_)
  obtain ⟨q1, q2, q3, q4, q5, h1, rfl⟩ := hp
  exact ⟨fun i => ([h0, q1, q2, q3, q4, q5] : List Nat).getD i 0, rfl, h1, rfl⟩
