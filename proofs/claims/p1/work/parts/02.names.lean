/-! names: classes, fields, methods, words -/
def R_TC : String := "ThreeClerks"
def F_TC : u_T := fun k => match k with
  | 0 => ("ThreeClerks", "text", "[C", true)
  | 1 => ("ThreeClerks", "length", "I", false)
  | 2 => ("ThreeClerks", "reader", "LThreeClerks$Reader;", true)
  | 3 => ("ThreeClerks", "script", "LThreeClerks$Script;", true)
  | 4 => ("ThreeClerks", "scriptThere", "Z", false)
  | 5 => ("ThreeClerks", "wrongAt", "I", false)
  | 6 => ("ThreeClerks", "inputs", "[I", true)
  | 7 => ("ThreeClerks", "inputSet", "[Z", true)
  | 8 => ("ThreeClerks", "keys", "[J", true)
  | 9 => ("ThreeClerks", "keySet", "[Z", true)
  | 10 => ("ThreeClerks", "office", "LThreeClerks$Office;", true)
  | 11 => ("ThreeClerks", "outputs", "[I", true)
  | 12 => ("ThreeClerks", "outputCount", "I", false)
  | _ => ("ThreeClerks", "runs", "I", false)
def t_TC : Nat → FieldType := fun k => match k with
  | 0 => (.array .char)
  | 1 => .int
  | 2 => (.object "ThreeClerks$Reader")
  | 3 => (.object "ThreeClerks$Script")
  | 4 => .boolean
  | 5 => .int
  | 6 => (.array .int)
  | 7 => (.array .boolean)
  | 8 => (.array .long)
  | 9 => (.array .boolean)
  | 10 => (.object "ThreeClerks$Office")
  | 11 => (.array .int)
  | 12 => .int
  | _ => .int
theorem n_TC : ∀ a, a < 14 → ∀ b, b < 14 → a ≠ b → (F_TC a).2.1 ≠ (F_TC b).2.1 := by decide +kernel
theorem t_TC_ok : ∀ k, k < 14 → parseFieldDescriptor (F_TC k).2.2.1 = some (t_TC k) := by decide +kernel
theorem z_TC : ∀ j, j < 14 → defaultValue (t_TC j) = vp_V [.null, .int 0, .null, .null, .int 0, .int 0, .null, .null, .null, .null, .null, .null, .int 0, .int 0] j := fun j hj => by
  rcases (show j = 0 ∨ j = 1 ∨ j = 2 ∨ j = 3 ∨ j = 4 ∨ j = 5 ∨ j = 6 ∨ j = 7 ∨ j = 8 ∨ j = 9 ∨ j = 10 ∨ j = 11 ∨ j = 12 ∨ j = 13 by omega) with rfl | rfl | rfl | rfl | rfl | rfl | rfl | rfl | rfl | rfl | rfl | rfl | rfl | rfl <;> rfl
abbrev vr_TC : vw_C := (R_TC, F_TC, 14)
def R_Mo : String := "ThreeClerksModel"
def F_Mo : u_T := fun k => match k with
  | 0 => ("ThreeClerksModel", "code", "I", false)
  | 1 => ("ThreeClerksModel", "typed", "I", false)
  | 2 => ("ThreeClerksModel", "text", "[C", true)
  | 3 => ("ThreeClerksModel", "place", "I", false)
  | 4 => ("ThreeClerksModel", "there", "Z", false)
  | 5 => ("ThreeClerksModel", "length", "I", false)
  | 6 => ("ThreeClerksModel", "script", "[I", true)
  | 7 => ("ThreeClerksModel", "fresh", "I", false)
  | 8 => ("ThreeClerksModel", "draft", "[I", true)
  | 9 => ("ThreeClerksModel", "compares", "I", false)
  | 10 => ("ThreeClerksModel", "opens", "I", false)
  | 11 => ("ThreeClerksModel", "kind", "I", false)
  | 12 => ("ThreeClerksModel", "begin", "I", false)
  | 13 => ("ThreeClerksModel", "end", "I", false)
  | 14 => ("ThreeClerksModel", "amount", "I", false)
  | 15 => ("ThreeClerksModel", "isSet", "[Z", true)
  | 16 => ("ThreeClerksModel", "inputs", "[I", true)
  | 17 => ("ThreeClerksModel", "seeded", "[Z", true)
  | 18 => ("ThreeClerksModel", "registers", "[I", true)
  | 19 => ("ThreeClerksModel", "many", "I", false)
  | _ => ("ThreeClerksModel", "outputs", "[I", true)
def t_Mo : Nat → FieldType := fun k => match k with
  | 0 => .int
  | 1 => .int
  | 2 => (.array .char)
  | 3 => .int
  | 4 => .boolean
  | 5 => .int
  | 6 => (.array .int)
  | 7 => .int
  | 8 => (.array .int)
  | 9 => .int
  | 10 => .int
  | 11 => .int
  | 12 => .int
  | 13 => .int
  | 14 => .int
  | 15 => (.array .boolean)
  | 16 => (.array .int)
  | 17 => (.array .boolean)
  | 18 => (.array .int)
  | 19 => .int
  | _ => (.array .int)
theorem n_Mo : ∀ a, a < 21 → ∀ b, b < 21 → a ≠ b → (F_Mo a).2.1 ≠ (F_Mo b).2.1 := by decide +kernel
theorem t_Mo_ok : ∀ k, k < 21 → parseFieldDescriptor (F_Mo k).2.2.1 = some (t_Mo k) := by decide +kernel
theorem z_Mo : ∀ j, j < 21 → defaultValue (t_Mo j) = vp_V [.int 0, .int 0, .null, .int 0, .int 0, .int 0, .null, .int 0, .null, .int 0, .int 0, .int 0, .int 0, .int 0, .int 0, .null, .null, .null, .null, .int 0, .null] j := fun j hj => by
  rcases (show j = 0 ∨ j = 1 ∨ j = 2 ∨ j = 3 ∨ j = 4 ∨ j = 5 ∨ j = 6 ∨ j = 7 ∨ j = 8 ∨ j = 9 ∨ j = 10 ∨ j = 11 ∨ j = 12 ∨ j = 13 ∨ j = 14 ∨ j = 15 ∨ j = 16 ∨ j = 17 ∨ j = 18 ∨ j = 19 ∨ j = 20 by omega) with rfl | rfl | rfl | rfl | rfl | rfl | rfl | rfl | rfl | rfl | rfl | rfl | rfl | rfl | rfl | rfl | rfl | rfl | rfl | rfl | rfl <;> rfl
abbrev vr_Mo : vw_C := (R_Mo, F_Mo, 21)
def R_Box : String := "ThreeClerks$Box"
def F_Box : u_T := fun k => match k with
  | 0 => ("ThreeClerks$Box", "numbers", "[I", true)
  | _ => ("ThreeClerks$Box", "words", "[J", true)
def t_Box : Nat → FieldType := fun k => match k with
  | 0 => (.array .int)
  | _ => (.array .long)
theorem n_Box : ∀ a, a < 2 → ∀ b, b < 2 → a ≠ b → (F_Box a).2.1 ≠ (F_Box b).2.1 := by decide +kernel
theorem t_Box_ok : ∀ k, k < 2 → parseFieldDescriptor (F_Box k).2.2.1 = some (t_Box k) := by decide +kernel
theorem z_Box : ∀ j, j < 2 → defaultValue (t_Box j) = vp_V [.null, .null] j := fun j hj => by
  rcases (show j = 0 ∨ j = 1 by omega) with rfl | rfl <;> rfl
abbrev vr_Box : vw_C := (R_Box, F_Box, 2)
def R_Clerk : String := "ThreeClerks$Clerk"
def F_Clerk : u_T := fun k => match k with
  | 0 => ("ThreeClerks$Clerk", "who", "I", true)
  | 1 => ("ThreeClerks$Clerk", "script", "LThreeClerks$Script;", true)
  | 2 => ("ThreeClerks$Clerk", "box", "LThreeClerks$Box;", true)
  | 3 => ("ThreeClerks$Clerk", "pads", "LThreeClerks$Pads;", true)
  | 4 => ("ThreeClerks$Clerk", "own", "[I", true)
  | 5 => ("ThreeClerks$Clerk", "next", "[I", true)
  | 6 => ("ThreeClerks$Clerk", "comparison", "LThreeClerks$Comparison;", true)
  | 7 => ("ThreeClerks$Clerk", "left", "LThreeClerks$Parts;", true)
  | 8 => ("ThreeClerks$Clerk", "right", "LThreeClerks$Parts;", true)
  | 9 => ("ThreeClerks$Clerk", "product", "LThreeClerks$Parts;", true)
  | 10 => ("ThreeClerks$Clerk", "bit", "LThreeClerks$Parts;", true)
  | 11 => ("ThreeClerks$Clerk", "task", "I", false)
  | 12 => ("ThreeClerks$Clerk", "stage", "I", false)
  | 13 => ("ThreeClerks$Clerk", "sent", "I", false)
  | 14 => ("ThreeClerks$Clerk", "waiting", "Z", false)
  | 15 => ("ThreeClerks$Clerk", "opened", "[I", true)
  | _ => ("ThreeClerks$Clerk", "openedCount", "I", false)
def t_Clerk : Nat → FieldType := fun k => match k with
  | 0 => .int
  | 1 => (.object "ThreeClerks$Script")
  | 2 => (.object "ThreeClerks$Box")
  | 3 => (.object "ThreeClerks$Pads")
  | 4 => (.array .int)
  | 5 => (.array .int)
  | 6 => (.object "ThreeClerks$Comparison")
  | 7 => (.object "ThreeClerks$Parts")
  | 8 => (.object "ThreeClerks$Parts")
  | 9 => (.object "ThreeClerks$Parts")
  | 10 => (.object "ThreeClerks$Parts")
  | 11 => .int
  | 12 => .int
  | 13 => .int
  | 14 => .boolean
  | 15 => (.array .int)
  | _ => .int
theorem n_Clerk : ∀ a, a < 17 → ∀ b, b < 17 → a ≠ b → (F_Clerk a).2.1 ≠ (F_Clerk b).2.1 := by decide +kernel
theorem t_Clerk_ok : ∀ k, k < 17 → parseFieldDescriptor (F_Clerk k).2.2.1 = some (t_Clerk k) := by decide +kernel
theorem z_Clerk : ∀ j, j < 17 → defaultValue (t_Clerk j) = vp_V [.int 0, .null, .null, .null, .null, .null, .null, .null, .null, .null, .null, .int 0, .int 0, .int 0, .int 0, .null, .int 0] j := fun j hj => by
  rcases (show j = 0 ∨ j = 1 ∨ j = 2 ∨ j = 3 ∨ j = 4 ∨ j = 5 ∨ j = 6 ∨ j = 7 ∨ j = 8 ∨ j = 9 ∨ j = 10 ∨ j = 11 ∨ j = 12 ∨ j = 13 ∨ j = 14 ∨ j = 15 ∨ j = 16 by omega) with rfl | rfl | rfl | rfl | rfl | rfl | rfl | rfl | rfl | rfl | rfl | rfl | rfl | rfl | rfl | rfl | rfl <;> rfl
abbrev vr_Clerk : vw_C := (R_Clerk, F_Clerk, 17)
def R_Comparison : String := "ThreeClerks$Comparison"
def F_Comparison : u_T := fun k => match k with
  | 0 => ("ThreeClerks$Comparison", "word", "LThreeClerks$Parts;", true)
  | 1 => ("ThreeClerks$Comparison", "made", "LThreeClerks$Parts;", true)
  | 2 => ("ThreeClerks$Comparison", "passed", "LThreeClerks$Parts;", true)
  | 3 => ("ThreeClerks$Comparison", "stage", "I", false)
  | _ => ("ThreeClerks$Comparison", "reach", "I", false)
def t_Comparison : Nat → FieldType := fun k => match k with
  | 0 => (.object "ThreeClerks$Parts")
  | 1 => (.object "ThreeClerks$Parts")
  | 2 => (.object "ThreeClerks$Parts")
  | 3 => .int
  | _ => .int
theorem n_Comparison : ∀ a, a < 5 → ∀ b, b < 5 → a ≠ b → (F_Comparison a).2.1 ≠ (F_Comparison b).2.1 := by decide +kernel
theorem t_Comparison_ok : ∀ k, k < 5 → parseFieldDescriptor (F_Comparison k).2.2.1 = some (t_Comparison k) := by decide +kernel
theorem z_Comparison : ∀ j, j < 5 → defaultValue (t_Comparison j) = vp_V [.null, .null, .null, .int 0, .int 0] j := fun j hj => by
  rcases (show j = 0 ∨ j = 1 ∨ j = 2 ∨ j = 3 ∨ j = 4 by omega) with rfl | rfl | rfl | rfl | rfl <;> rfl
abbrev vr_Comparison : vw_C := (R_Comparison, F_Comparison, 5)
def R_Office : String := "ThreeClerks$Office"
def F_Office : u_T := fun k => match k with
  | 0 => ("ThreeClerks$Office", "post", "LThreeClerks$Post;", true)
  | 1 => ("ThreeClerks$Office", "clerks", "[LThreeClerks$Clerk;", true)
  | _ => ("ThreeClerks$Office", "chance", "J", false)
def t_Office : Nat → FieldType := fun k => match k with
  | 0 => (.object "ThreeClerks$Post")
  | 1 => (.array (.object "ThreeClerks$Clerk"))
  | _ => .long
theorem n_Office : ∀ a, a < 3 → ∀ b, b < 3 → a ≠ b → (F_Office a).2.1 ≠ (F_Office b).2.1 := by decide +kernel
theorem t_Office_ok : ∀ k, k < 3 → parseFieldDescriptor (F_Office k).2.2.1 = some (t_Office k) := by decide +kernel
theorem z_Office : ∀ j, j < 3 → defaultValue (t_Office j) = vp_V [.null, .null, .long 0] j := fun j hj => by
  rcases (show j = 0 ∨ j = 1 ∨ j = 2 by omega) with rfl | rfl | rfl <;> rfl
abbrev vr_Office : vw_C := (R_Office, F_Office, 3)
def R_Pads : String := "ThreeClerks$Pads"
def F_Pads : u_T := fun k => match k with
  | 0 => ("ThreeClerks$Pads", "ownKey", "J", false)
  | 1 => ("ThreeClerks$Pads", "nextKey", "J", false)
  | _ => ("ThreeClerks$Pads", "runs", "I", false)
def t_Pads : Nat → FieldType := fun k => match k with
  | 0 => .long
  | 1 => .long
  | _ => .int
theorem n_Pads : ∀ a, a < 3 → ∀ b, b < 3 → a ≠ b → (F_Pads a).2.1 ≠ (F_Pads b).2.1 := by decide +kernel
theorem t_Pads_ok : ∀ k, k < 3 → parseFieldDescriptor (F_Pads k).2.2.1 = some (t_Pads k) := by decide +kernel
theorem z_Pads : ∀ j, j < 3 → defaultValue (t_Pads j) = vp_V [.long 0, .long 0, .int 0] j := fun j hj => by
  rcases (show j = 0 ∨ j = 1 ∨ j = 2 by omega) with rfl | rfl | rfl <;> rfl
abbrev vr_Pads : vw_C := (R_Pads, F_Pads, 3)
def R_Parts : String := "ThreeClerks$Parts"
def F_Parts : u_T := fun k => match k with
  | 0 => ("ThreeClerks$Parts", "who", "I", true)
  | 1 => ("ThreeClerks$Parts", "own", "J", false)
  | _ => ("ThreeClerks$Parts", "next", "J", false)
def t_Parts : Nat → FieldType := fun k => match k with
  | 0 => .int
  | 1 => .long
  | _ => .long
theorem n_Parts : ∀ a, a < 3 → ∀ b, b < 3 → a ≠ b → (F_Parts a).2.1 ≠ (F_Parts b).2.1 := by decide +kernel
theorem t_Parts_ok : ∀ k, k < 3 → parseFieldDescriptor (F_Parts k).2.2.1 = some (t_Parts k) := by decide +kernel
theorem z_Parts : ∀ j, j < 3 → defaultValue (t_Parts j) = vp_V [.int 0, .long 0, .long 0] j := fun j hj => by
  rcases (show j = 0 ∨ j = 1 ∨ j = 2 by omega) with rfl | rfl | rfl <;> rfl
abbrev vr_Parts : vw_C := (R_Parts, F_Parts, 3)
def R_Post : String := "ThreeClerks$Post"
def F_Post : u_T := fun k => match k with
  | 0 => ("ThreeClerks$Post", "receivers", "[I", true)
  | 1 => ("ThreeClerks$Post", "numbers", "[I", true)
  | 2 => ("ThreeClerks$Post", "words", "[J", true)
  | _ => ("ThreeClerks$Post", "count", "I", false)
def t_Post : Nat → FieldType := fun k => match k with
  | 0 => (.array .int)
  | 1 => (.array .int)
  | 2 => (.array .long)
  | _ => .int
theorem n_Post : ∀ a, a < 4 → ∀ b, b < 4 → a ≠ b → (F_Post a).2.1 ≠ (F_Post b).2.1 := by decide +kernel
theorem t_Post_ok : ∀ k, k < 4 → parseFieldDescriptor (F_Post k).2.2.1 = some (t_Post k) := by decide +kernel
theorem z_Post : ∀ j, j < 4 → defaultValue (t_Post j) = vp_V [.null, .null, .null, .int 0] j := fun j hj => by
  rcases (show j = 0 ∨ j = 1 ∨ j = 2 ∨ j = 3 by omega) with rfl | rfl | rfl | rfl <;> rfl
abbrev vr_Post : vw_C := (R_Post, F_Post, 4)
def R_Reader : String := "ThreeClerks$Reader"
def F_Reader : u_T := fun k => match k with
  | 0 => ("ThreeClerks$Reader", "tokens", "LThreeClerks$Tokens;", true)
  | 1 => ("ThreeClerks$Reader", "draft", "LThreeClerks$Script;", true)
  | _ => ("ThreeClerks$Reader", "at", "I", false)
def t_Reader : Nat → FieldType := fun k => match k with
  | 0 => (.object "ThreeClerks$Tokens")
  | 1 => (.object "ThreeClerks$Script")
  | _ => .int
theorem n_Reader : ∀ a, a < 3 → ∀ b, b < 3 → a ≠ b → (F_Reader a).2.1 ≠ (F_Reader b).2.1 := by decide +kernel
theorem t_Reader_ok : ∀ k, k < 3 → parseFieldDescriptor (F_Reader k).2.2.1 = some (t_Reader k) := by decide +kernel
theorem z_Reader : ∀ j, j < 3 → defaultValue (t_Reader j) = vp_V [.null, .null, .int 0] j := fun j hj => by
  rcases (show j = 0 ∨ j = 1 ∨ j = 2 by omega) with rfl | rfl | rfl <;> rfl
abbrev vr_Reader : vw_C := (R_Reader, F_Reader, 3)
def R_Script : String := "ThreeClerks$Script"
def F_Script : u_T := fun k => match k with
  | 0 => ("ThreeClerks$Script", "kinds", "[I", true)
  | 1 => ("ThreeClerks$Script", "targets", "[I", true)
  | 2 => ("ThreeClerks$Script", "firsts", "[I", true)
  | 3 => ("ThreeClerks$Script", "seconds", "[I", true)
  | 4 => ("ThreeClerks$Script", "thirds", "[I", true)
  | 5 => ("ThreeClerks$Script", "count", "I", false)
  | 6 => ("ThreeClerks$Script", "comparisons", "I", false)
  | 7 => ("ThreeClerks$Script", "opens", "I", false)
  | _ => ("ThreeClerks$Script", "named", "I", false)
def t_Script : Nat → FieldType := fun k => match k with
  | 0 => (.array .int)
  | 1 => (.array .int)
  | 2 => (.array .int)
  | 3 => (.array .int)
  | 4 => (.array .int)
  | 5 => .int
  | 6 => .int
  | 7 => .int
  | _ => .int
theorem n_Script : ∀ a, a < 9 → ∀ b, b < 9 → a ≠ b → (F_Script a).2.1 ≠ (F_Script b).2.1 := by decide +kernel
theorem t_Script_ok : ∀ k, k < 9 → parseFieldDescriptor (F_Script k).2.2.1 = some (t_Script k) := by decide +kernel
theorem z_Script : ∀ j, j < 9 → defaultValue (t_Script j) = vp_V [.null, .null, .null, .null, .null, .int 0, .int 0, .int 0, .int 0] j := fun j hj => by
  rcases (show j = 0 ∨ j = 1 ∨ j = 2 ∨ j = 3 ∨ j = 4 ∨ j = 5 ∨ j = 6 ∨ j = 7 ∨ j = 8 by omega) with rfl | rfl | rfl | rfl | rfl | rfl | rfl | rfl | rfl <;> rfl
abbrev vr_Script : vw_C := (R_Script, F_Script, 9)
def R_Tokens : String := "ThreeClerks$Tokens"
def F_Tokens : u_T := fun k => match k with
  | 0 => ("ThreeClerks$Tokens", "text", "[C", true)
  | 1 => ("ThreeClerks$Tokens", "kinds", "[I", true)
  | 2 => ("ThreeClerks$Tokens", "begins", "[I", true)
  | 3 => ("ThreeClerks$Tokens", "values", "[I", true)
  | _ => ("ThreeClerks$Tokens", "count", "I", false)
def t_Tokens : Nat → FieldType := fun k => match k with
  | 0 => (.array .char)
  | 1 => (.array .int)
  | 2 => (.array .int)
  | 3 => (.array .int)
  | _ => .int
theorem n_Tokens : ∀ a, a < 5 → ∀ b, b < 5 → a ≠ b → (F_Tokens a).2.1 ≠ (F_Tokens b).2.1 := by decide +kernel
theorem t_Tokens_ok : ∀ k, k < 5 → parseFieldDescriptor (F_Tokens k).2.2.1 = some (t_Tokens k) := by decide +kernel
theorem z_Tokens : ∀ j, j < 5 → defaultValue (t_Tokens j) = vp_V [.null, .null, .null, .null, .int 0] j := fun j hj => by
  rcases (show j = 0 ∨ j = 1 ∨ j = 2 ∨ j = 3 ∨ j = 4 by omega) with rfl | rfl | rfl | rfl | rfl <;> rfl
abbrev vr_Tokens : vw_C := (R_Tokens, F_Tokens, 5)
abbrev vcl : List vw_C := [vr_TC, vr_Mo, vr_Box, vr_Clerk, vr_Comparison, vr_Office, vr_Pads, vr_Parts, vr_Post, vr_Reader, vr_Script, vr_Tokens]
abbrev b_TC_init : ByteArray := prog_1_method_1_code
def y_TC_init : MethodName := ⟨"ThreeClerks", "<init>", "()V"⟩
theorem yd_TC_init : y_TC_init.cls ≠ "java/lang/invoke/MethodHandle" ∧ y_TC_init.cls ≠ "java/lang/invoke/VarHandle" ∧ (parseMethodDescriptor y_TC_init.desc).map (fun d => d.parameters.length) = some 0 := by decide +kernel
abbrev b_TC_write : ByteArray := prog_1_method_2_code
def y_TC_write : MethodName := ⟨"ThreeClerks", "write", "(J)Z"⟩
theorem yd_TC_write : y_TC_write.cls = "ThreeClerks" ∧ y_TC_write.cls ≠ "java/lang/invoke/MethodHandle" ∧ y_TC_write.cls ≠ "java/lang/invoke/VarHandle" ∧ (parseMethodDescriptor y_TC_write.desc).map (fun d => d.parameters.length) = some 1 := by decide +kernel
abbrev b_TC_wipe : ByteArray := prog_1_method_3_code
def y_TC_wipe : MethodName := ⟨"ThreeClerks", "wipe", "()I"⟩
theorem yd_TC_wipe : y_TC_wipe.cls = "ThreeClerks" ∧ y_TC_wipe.cls ≠ "java/lang/invoke/MethodHandle" ∧ y_TC_wipe.cls ≠ "java/lang/invoke/VarHandle" ∧ (parseMethodDescriptor y_TC_wipe.desc).map (fun d => d.parameters.length) = some 0 := by decide +kernel
abbrev b_TC_compile : ByteArray := prog_1_method_4_code
def y_TC_compile : MethodName := ⟨"ThreeClerks", "compile", "()I"⟩
theorem yd_TC_compile : y_TC_compile.cls = "ThreeClerks" ∧ y_TC_compile.cls ≠ "java/lang/invoke/MethodHandle" ∧ y_TC_compile.cls ≠ "java/lang/invoke/VarHandle" ∧ (parseMethodDescriptor y_TC_compile.desc).map (fun d => d.parameters.length) = some 0 := by decide +kernel
abbrev b_TC_place : ByteArray := prog_1_method_5_code
def y_TC_place : MethodName := ⟨"ThreeClerks", "place", "()I"⟩
theorem yd_TC_place : y_TC_place.cls = "ThreeClerks" ∧ y_TC_place.cls ≠ "java/lang/invoke/MethodHandle" ∧ y_TC_place.cls ≠ "java/lang/invoke/VarHandle" ∧ (parseMethodDescriptor y_TC_place.desc).map (fun d => d.parameters.length) = some 0 := by decide +kernel
abbrev b_TC_input : ByteArray := prog_1_method_6_code
def y_TC_input : MethodName := ⟨"ThreeClerks", "input", "(II)V"⟩
theorem yd_TC_input : y_TC_input.cls = "ThreeClerks" ∧ y_TC_input.cls ≠ "java/lang/invoke/MethodHandle" ∧ y_TC_input.cls ≠ "java/lang/invoke/VarHandle" ∧ (parseMethodDescriptor y_TC_input.desc).map (fun d => d.parameters.length) = some 2 := by decide +kernel
abbrev b_TC_seed : ByteArray := prog_1_method_7_code
def y_TC_seed : MethodName := ⟨"ThreeClerks", "seed", "(III)V"⟩
theorem yd_TC_seed : y_TC_seed.cls = "ThreeClerks" ∧ y_TC_seed.cls ≠ "java/lang/invoke/MethodHandle" ∧ y_TC_seed.cls ≠ "java/lang/invoke/VarHandle" ∧ (parseMethodDescriptor y_TC_seed.desc).map (fun d => d.parameters.length) = some 3 := by decide +kernel
abbrev b_TC_run : ByteArray := prog_1_method_8_code
def y_TC_run : MethodName := ⟨"ThreeClerks", "run", "(I)I"⟩
theorem yd_TC_run : y_TC_run.cls = "ThreeClerks" ∧ y_TC_run.cls ≠ "java/lang/invoke/MethodHandle" ∧ y_TC_run.cls ≠ "java/lang/invoke/VarHandle" ∧ (parseMethodDescriptor y_TC_run.desc).map (fun d => d.parameters.length) = some 1 := by decide +kernel
abbrev b_TC_output : ByteArray := prog_1_method_9_code
def y_TC_output : MethodName := ⟨"ThreeClerks", "output", "(I)I"⟩
theorem yd_TC_output : y_TC_output.cls = "ThreeClerks" ∧ y_TC_output.cls ≠ "java/lang/invoke/MethodHandle" ∧ y_TC_output.cls ≠ "java/lang/invoke/VarHandle" ∧ (parseMethodDescriptor y_TC_output.desc).map (fun d => d.parameters.length) = some 1 := by decide +kernel
abbrev b_TC_seedsSet : ByteArray := prog_1_method_10_code
def y_TC_seedsSet : MethodName := ⟨"ThreeClerks", "seedsSet", "()Z"⟩
theorem yd_TC_seedsSet : y_TC_seedsSet.cls = "ThreeClerks" ∧ y_TC_seedsSet.cls ≠ "java/lang/invoke/MethodHandle" ∧ y_TC_seedsSet.cls ≠ "java/lang/invoke/VarHandle" ∧ (parseMethodDescriptor y_TC_seedsSet.desc).map (fun d => d.parameters.length) = some 0 := by decide +kernel
abbrev b_TC_namedInputsSet : ByteArray := prog_1_method_11_code
def y_TC_namedInputsSet : MethodName := ⟨"ThreeClerks", "namedInputsSet", "()Z"⟩
theorem yd_TC_namedInputsSet : y_TC_namedInputsSet.cls = "ThreeClerks" ∧ y_TC_namedInputsSet.cls ≠ "java/lang/invoke/MethodHandle" ∧ y_TC_namedInputsSet.cls ≠ "java/lang/invoke/VarHandle" ∧ (parseMethodDescriptor y_TC_namedInputsSet.desc).map (fun d => d.parameters.length) = some 0 := by decide +kernel
abbrev b_TC_dealInputs : ByteArray := prog_1_method_12_code
def y_TC_dealInputs : MethodName := ⟨"ThreeClerks", "dealInputs", "()V"⟩
theorem yd_TC_dealInputs : y_TC_dealInputs.cls = "ThreeClerks" ∧ y_TC_dealInputs.cls ≠ "java/lang/invoke/MethodHandle" ∧ y_TC_dealInputs.cls ≠ "java/lang/invoke/VarHandle" ∧ (parseMethodDescriptor y_TC_dealInputs.desc).map (fun d => d.parameters.length) = some 0 := by decide +kernel
abbrev b_Mo_init : ByteArray := prog_13_method_1_code
def y_Mo_init : MethodName := ⟨"ThreeClerksModel", "<init>", "()V"⟩
theorem yd_Mo_init : y_Mo_init.cls ≠ "java/lang/invoke/MethodHandle" ∧ y_Mo_init.cls ≠ "java/lang/invoke/VarHandle" ∧ (parseMethodDescriptor y_Mo_init.desc).map (fun d => d.parameters.length) = some 0 := by decide +kernel
abbrev b_Mo_thrown : ByteArray := prog_13_method_2_code
def y_Mo_thrown : MethodName := ⟨"ThreeClerksModel", "thrown", "()I"⟩
theorem yd_Mo_thrown : y_Mo_thrown.cls = "ThreeClerksModel" ∧ y_Mo_thrown.cls ≠ "java/lang/invoke/MethodHandle" ∧ y_Mo_thrown.cls ≠ "java/lang/invoke/VarHandle" ∧ (parseMethodDescriptor y_Mo_thrown.desc).map (fun d => d.parameters.length) = some 0 := by decide +kernel
abbrev b_Mo_write : ByteArray := prog_13_method_3_code
def y_Mo_write : MethodName := ⟨"ThreeClerksModel", "write", "(J)Z"⟩
theorem yd_Mo_write : y_Mo_write.cls = "ThreeClerksModel" ∧ y_Mo_write.cls ≠ "java/lang/invoke/MethodHandle" ∧ y_Mo_write.cls ≠ "java/lang/invoke/VarHandle" ∧ (parseMethodDescriptor y_Mo_write.desc).map (fun d => d.parameters.length) = some 1 := by decide +kernel
abbrev b_Mo_wipe : ByteArray := prog_13_method_4_code
def y_Mo_wipe : MethodName := ⟨"ThreeClerksModel", "wipe", "()I"⟩
theorem yd_Mo_wipe : y_Mo_wipe.cls = "ThreeClerksModel" ∧ y_Mo_wipe.cls ≠ "java/lang/invoke/MethodHandle" ∧ y_Mo_wipe.cls ≠ "java/lang/invoke/VarHandle" ∧ (parseMethodDescriptor y_Mo_wipe.desc).map (fun d => d.parameters.length) = some 0 := by decide +kernel
abbrev b_Mo_isLetter : ByteArray := prog_13_method_5_code
def y_Mo_isLetter : MethodName := ⟨"ThreeClerksModel", "isLetter", "(C)Z"⟩
theorem yd_Mo_isLetter : y_Mo_isLetter.cls = "ThreeClerksModel" ∧ y_Mo_isLetter.cls ≠ "java/lang/invoke/MethodHandle" ∧ y_Mo_isLetter.cls ≠ "java/lang/invoke/VarHandle" ∧ (parseMethodDescriptor y_Mo_isLetter.desc).map (fun d => d.parameters.length) = some 1 := by decide +kernel
abbrev b_Mo_isDigit : ByteArray := prog_13_method_6_code
def y_Mo_isDigit : MethodName := ⟨"ThreeClerksModel", "isDigit", "(C)Z"⟩
theorem yd_Mo_isDigit : y_Mo_isDigit.cls = "ThreeClerksModel" ∧ y_Mo_isDigit.cls ≠ "java/lang/invoke/MethodHandle" ∧ y_Mo_isDigit.cls ≠ "java/lang/invoke/VarHandle" ∧ (parseMethodDescriptor y_Mo_isDigit.desc).map (fun d => d.parameters.length) = some 1 := by decide +kernel
abbrev b_Mo_isSign : ByteArray := prog_13_method_7_code
def y_Mo_isSign : MethodName := ⟨"ThreeClerksModel", "isSign", "(C)Z"⟩
theorem yd_Mo_isSign : y_Mo_isSign.cls = "ThreeClerksModel" ∧ y_Mo_isSign.cls ≠ "java/lang/invoke/MethodHandle" ∧ y_Mo_isSign.cls ≠ "java/lang/invoke/VarHandle" ∧ (parseMethodDescriptor y_Mo_isSign.desc).map (fun d => d.parameters.length) = some 1 := by decide +kernel
abbrev b_Mo_see : ByteArray := prog_13_method_8_code
def y_Mo_see : MethodName := ⟨"ThreeClerksModel", "see", "(I)C"⟩
theorem yd_Mo_see : y_Mo_see.cls = "ThreeClerksModel" ∧ y_Mo_see.cls ≠ "java/lang/invoke/MethodHandle" ∧ y_Mo_see.cls ≠ "java/lang/invoke/VarHandle" ∧ (parseMethodDescriptor y_Mo_see.desc).map (fun d => d.parameters.length) = some 1 := by decide +kernel
abbrev b_Mo_scan : ByteArray := prog_13_method_9_code
def y_Mo_scan : MethodName := ⟨"ThreeClerksModel", "scan", "(I)V"⟩
theorem yd_Mo_scan : y_Mo_scan.cls = "ThreeClerksModel" ∧ y_Mo_scan.cls ≠ "java/lang/invoke/MethodHandle" ∧ y_Mo_scan.cls ≠ "java/lang/invoke/VarHandle" ∧ (parseMethodDescriptor y_Mo_scan.desc).map (fun d => d.parameters.length) = some 1 := by decide +kernel
abbrev b_Mo_isIt : ByteArray := prog_13_method_10_code
def y_Mo_isIt : MethodName := ⟨"ThreeClerksModel", "isIt", "(C)Z"⟩
theorem yd_Mo_isIt : y_Mo_isIt.cls = "ThreeClerksModel" ∧ y_Mo_isIt.cls ≠ "java/lang/invoke/MethodHandle" ∧ y_Mo_isIt.cls ≠ "java/lang/invoke/VarHandle" ∧ (parseMethodDescriptor y_Mo_isIt.desc).map (fun d => d.parameters.length) = some 1 := by decide +kernel
abbrev b_Mo_isWord : ByteArray := prog_13_method_11_code
def y_Mo_isWord : MethodName := ⟨"ThreeClerksModel", "isWord", "(CCCC)Z"⟩
theorem yd_Mo_isWord : y_Mo_isWord.cls = "ThreeClerksModel" ∧ y_Mo_isWord.cls ≠ "java/lang/invoke/MethodHandle" ∧ y_Mo_isWord.cls ≠ "java/lang/invoke/VarHandle" ∧ (parseMethodDescriptor y_Mo_isWord.desc).map (fun d => d.parameters.length) = some 4 := by decide +kernel
abbrev b_Mo_isRegister : ByteArray := prog_13_method_12_code
def y_Mo_isRegister : MethodName := ⟨"ThreeClerksModel", "isRegister", "()Z"⟩
theorem yd_Mo_isRegister : y_Mo_isRegister.cls = "ThreeClerksModel" ∧ y_Mo_isRegister.cls ≠ "java/lang/invoke/MethodHandle" ∧ y_Mo_isRegister.cls ≠ "java/lang/invoke/VarHandle" ∧ (parseMethodDescriptor y_Mo_isRegister.desc).map (fun d => d.parameters.length) = some 0 := by decide +kernel
abbrev b_Mo_put : ByteArray := prog_13_method_13_code
def y_Mo_put : MethodName := ⟨"ThreeClerksModel", "put", "(II)V"⟩
theorem yd_Mo_put : y_Mo_put.cls = "ThreeClerksModel" ∧ y_Mo_put.cls ≠ "java/lang/invoke/MethodHandle" ∧ y_Mo_put.cls ≠ "java/lang/invoke/VarHandle" ∧ (parseMethodDescriptor y_Mo_put.desc).map (fun d => d.parameters.length) = some 2 := by decide +kernel
abbrev b_Mo_start : ByteArray := prog_13_method_14_code
def y_Mo_start : MethodName := ⟨"ThreeClerksModel", "start", "()I"⟩
theorem yd_Mo_start : y_Mo_start.cls = "ThreeClerksModel" ∧ y_Mo_start.cls ≠ "java/lang/invoke/MethodHandle" ∧ y_Mo_start.cls ≠ "java/lang/invoke/VarHandle" ∧ (parseMethodDescriptor y_Mo_start.desc).map (fun d => d.parameters.length) = some 0 := by decide +kernel
abbrev b_Mo_value : ByteArray := prog_13_method_15_code
def y_Mo_value : MethodName := ⟨"ThreeClerksModel", "value", "(III)I"⟩
theorem yd_Mo_value : y_Mo_value.cls = "ThreeClerksModel" ∧ y_Mo_value.cls ≠ "java/lang/invoke/MethodHandle" ∧ y_Mo_value.cls ≠ "java/lang/invoke/VarHandle" ∧ (parseMethodDescriptor y_Mo_value.desc).map (fun d => d.parameters.length) = some 3 := by decide +kernel
abbrev b_Mo_inputOf : ByteArray := prog_13_method_16_code
def y_Mo_inputOf : MethodName := ⟨"ThreeClerksModel", "inputOf", "(II)I"⟩
theorem yd_Mo_inputOf : y_Mo_inputOf.cls = "ThreeClerksModel" ∧ y_Mo_inputOf.cls ≠ "java/lang/invoke/MethodHandle" ∧ y_Mo_inputOf.cls ≠ "java/lang/invoke/VarHandle" ∧ (parseMethodDescriptor y_Mo_inputOf.desc).map (fun d => d.parameters.length) = some 2 := by decide +kernel
abbrev b_Mo_compared : ByteArray := prog_13_method_17_code
def y_Mo_compared : MethodName := ⟨"ThreeClerksModel", "compared", "(II)I"⟩
theorem yd_Mo_compared : y_Mo_compared.cls = "ThreeClerksModel" ∧ y_Mo_compared.cls ≠ "java/lang/invoke/MethodHandle" ∧ y_Mo_compared.cls ≠ "java/lang/invoke/VarHandle" ∧ (parseMethodDescriptor y_Mo_compared.desc).map (fun d => d.parameters.length) = some 2 := by decide +kernel
abbrev b_Mo_afterFirst : ByteArray := prog_13_method_18_code
def y_Mo_afterFirst : MethodName := ⟨"ThreeClerksModel", "afterFirst", "()I"⟩
theorem yd_Mo_afterFirst : y_Mo_afterFirst.cls = "ThreeClerksModel" ∧ y_Mo_afterFirst.cls ≠ "java/lang/invoke/MethodHandle" ∧ y_Mo_afterFirst.cls ≠ "java/lang/invoke/VarHandle" ∧ (parseMethodDescriptor y_Mo_afterFirst.desc).map (fun d => d.parameters.length) = some 0 := by decide +kernel
abbrev b_Mo_after : ByteArray := prog_13_method_19_code
def y_Mo_after : MethodName := ⟨"ThreeClerksModel", "after", "()I"⟩
theorem yd_Mo_after : y_Mo_after.cls = "ThreeClerksModel" ∧ y_Mo_after.cls ≠ "java/lang/invoke/MethodHandle" ∧ y_Mo_after.cls ≠ "java/lang/invoke/VarHandle" ∧ (parseMethodDescriptor y_Mo_after.desc).map (fun d => d.parameters.length) = some 0 := by decide +kernel
abbrev b_Mo_to : ByteArray := prog_13_method_20_code
def y_Mo_to : MethodName := ⟨"ThreeClerksModel", "to", "()I"⟩
theorem yd_Mo_to : y_Mo_to.cls = "ThreeClerksModel" ∧ y_Mo_to.cls ≠ "java/lang/invoke/MethodHandle" ∧ y_Mo_to.cls ≠ "java/lang/invoke/VarHandle" ∧ (parseMethodDescriptor y_Mo_to.desc).map (fun d => d.parameters.length) = some 0 := by decide +kernel
abbrev b_Mo_named : ByteArray := prog_13_method_21_code
def y_Mo_named : MethodName := ⟨"ThreeClerksModel", "named", "(I)I"⟩
theorem yd_Mo_named : y_Mo_named.cls = "ThreeClerksModel" ∧ y_Mo_named.cls ≠ "java/lang/invoke/MethodHandle" ∧ y_Mo_named.cls ≠ "java/lang/invoke/VarHandle" ∧ (parseMethodDescriptor y_Mo_named.desc).map (fun d => d.parameters.length) = some 1 := by decide +kernel
abbrev b_Mo_next : ByteArray := prog_13_method_22_code
def y_Mo_next : MethodName := ⟨"ThreeClerksModel", "next", "(I)I"⟩
theorem yd_Mo_next : y_Mo_next.cls = "ThreeClerksModel" ∧ y_Mo_next.cls ≠ "java/lang/invoke/MethodHandle" ∧ y_Mo_next.cls ≠ "java/lang/invoke/VarHandle" ∧ (parseMethodDescriptor y_Mo_next.desc).map (fun d => d.parameters.length) = some 1 := by decide +kernel
abbrev b_Mo_readText : ByteArray := prog_13_method_23_code
def y_Mo_readText : MethodName := ⟨"ThreeClerksModel", "readText", "()I"⟩
theorem yd_Mo_readText : y_Mo_readText.cls = "ThreeClerksModel" ∧ y_Mo_readText.cls ≠ "java/lang/invoke/MethodHandle" ∧ y_Mo_readText.cls ≠ "java/lang/invoke/VarHandle" ∧ (parseMethodDescriptor y_Mo_readText.desc).map (fun d => d.parameters.length) = some 0 := by decide +kernel
abbrev b_Mo_compile : ByteArray := prog_13_method_24_code
def y_Mo_compile : MethodName := ⟨"ThreeClerksModel", "compile", "()I"⟩
theorem yd_Mo_compile : y_Mo_compile.cls = "ThreeClerksModel" ∧ y_Mo_compile.cls ≠ "java/lang/invoke/MethodHandle" ∧ y_Mo_compile.cls ≠ "java/lang/invoke/VarHandle" ∧ (parseMethodDescriptor y_Mo_compile.desc).map (fun d => d.parameters.length) = some 0 := by decide +kernel
abbrev b_Mo_place : ByteArray := prog_13_method_25_code
def y_Mo_place : MethodName := ⟨"ThreeClerksModel", "place", "()I"⟩
theorem yd_Mo_place : y_Mo_place.cls = "ThreeClerksModel" ∧ y_Mo_place.cls ≠ "java/lang/invoke/MethodHandle" ∧ y_Mo_place.cls ≠ "java/lang/invoke/VarHandle" ∧ (parseMethodDescriptor y_Mo_place.desc).map (fun d => d.parameters.length) = some 0 := by decide +kernel
abbrev b_Mo_input : ByteArray := prog_13_method_26_code
def y_Mo_input : MethodName := ⟨"ThreeClerksModel", "input", "(II)V"⟩
theorem yd_Mo_input : y_Mo_input.cls = "ThreeClerksModel" ∧ y_Mo_input.cls ≠ "java/lang/invoke/MethodHandle" ∧ y_Mo_input.cls ≠ "java/lang/invoke/VarHandle" ∧ (parseMethodDescriptor y_Mo_input.desc).map (fun d => d.parameters.length) = some 2 := by decide +kernel
abbrev b_Mo_seed : ByteArray := prog_13_method_27_code
def y_Mo_seed : MethodName := ⟨"ThreeClerksModel", "seed", "(III)V"⟩
theorem yd_Mo_seed : y_Mo_seed.cls = "ThreeClerksModel" ∧ y_Mo_seed.cls ≠ "java/lang/invoke/MethodHandle" ∧ y_Mo_seed.cls ≠ "java/lang/invoke/VarHandle" ∧ (parseMethodDescriptor y_Mo_seed.desc).map (fun d => d.parameters.length) = some 3 := by decide +kernel
abbrev b_Mo_lacks : ByteArray := prog_13_method_28_code
def y_Mo_lacks : MethodName := ⟨"ThreeClerksModel", "lacks", "(I)Z"⟩
theorem yd_Mo_lacks : y_Mo_lacks.cls = "ThreeClerksModel" ∧ y_Mo_lacks.cls ≠ "java/lang/invoke/MethodHandle" ∧ y_Mo_lacks.cls ≠ "java/lang/invoke/VarHandle" ∧ (parseMethodDescriptor y_Mo_lacks.desc).map (fun d => d.parameters.length) = some 1 := by decide +kernel
abbrev b_Mo_mayRun : ByteArray := prog_13_method_29_code
def y_Mo_mayRun : MethodName := ⟨"ThreeClerksModel", "mayRun", "()Z"⟩
theorem yd_Mo_mayRun : y_Mo_mayRun.cls = "ThreeClerksModel" ∧ y_Mo_mayRun.cls ≠ "java/lang/invoke/MethodHandle" ∧ y_Mo_mayRun.cls ≠ "java/lang/invoke/VarHandle" ∧ (parseMethodDescriptor y_Mo_mayRun.desc).map (fun d => d.parameters.length) = some 0 := by decide +kernel
abbrev b_Mo_valueOf : ByteArray := prog_13_method_30_code
def y_Mo_valueOf : MethodName := ⟨"ThreeClerksModel", "valueOf", "(I)I"⟩
theorem yd_Mo_valueOf : y_Mo_valueOf.cls = "ThreeClerksModel" ∧ y_Mo_valueOf.cls ≠ "java/lang/invoke/MethodHandle" ∧ y_Mo_valueOf.cls ≠ "java/lang/invoke/VarHandle" ∧ (parseMethodDescriptor y_Mo_valueOf.desc).map (fun d => d.parameters.length) = some 1 := by decide +kernel
abbrev b_Mo_isLess : ByteArray := prog_13_method_31_code
def y_Mo_isLess : MethodName := ⟨"ThreeClerksModel", "isLess", "(II)Z"⟩
theorem yd_Mo_isLess : y_Mo_isLess.cls = "ThreeClerksModel" ∧ y_Mo_isLess.cls ≠ "java/lang/invoke/MethodHandle" ∧ y_Mo_isLess.cls ≠ "java/lang/invoke/VarHandle" ∧ (parseMethodDescriptor y_Mo_isLess.desc).map (fun d => d.parameters.length) = some 2 := by decide +kernel
abbrev b_Mo_reckon : ByteArray := prog_13_method_32_code
def y_Mo_reckon : MethodName := ⟨"ThreeClerksModel", "reckon", "(III)I"⟩
theorem yd_Mo_reckon : y_Mo_reckon.cls = "ThreeClerksModel" ∧ y_Mo_reckon.cls ≠ "java/lang/invoke/MethodHandle" ∧ y_Mo_reckon.cls ≠ "java/lang/invoke/VarHandle" ∧ (parseMethodDescriptor y_Mo_reckon.desc).map (fun d => d.parameters.length) = some 3 := by decide +kernel
abbrev b_Mo_sort : ByteArray := prog_13_method_33_code
def y_Mo_sort : MethodName := ⟨"ThreeClerksModel", "sort", "(II)V"⟩
theorem yd_Mo_sort : y_Mo_sort.cls = "ThreeClerksModel" ∧ y_Mo_sort.cls ≠ "java/lang/invoke/MethodHandle" ∧ y_Mo_sort.cls ≠ "java/lang/invoke/VarHandle" ∧ (parseMethodDescriptor y_Mo_sort.desc).map (fun d => d.parameters.length) = some 2 := by decide +kernel
abbrev b_Mo_carry : ByteArray := prog_13_method_34_code
def y_Mo_carry : MethodName := ⟨"ThreeClerksModel", "carry", "(I)V"⟩
theorem yd_Mo_carry : y_Mo_carry.cls = "ThreeClerksModel" ∧ y_Mo_carry.cls ≠ "java/lang/invoke/MethodHandle" ∧ y_Mo_carry.cls ≠ "java/lang/invoke/VarHandle" ∧ (parseMethodDescriptor y_Mo_carry.desc).map (fun d => d.parameters.length) = some 1 := by decide +kernel
abbrev b_Mo_run : ByteArray := prog_13_method_35_code
def y_Mo_run : MethodName := ⟨"ThreeClerksModel", "run", "(I)I"⟩
theorem yd_Mo_run : y_Mo_run.cls = "ThreeClerksModel" ∧ y_Mo_run.cls ≠ "java/lang/invoke/MethodHandle" ∧ y_Mo_run.cls ≠ "java/lang/invoke/VarHandle" ∧ (parseMethodDescriptor y_Mo_run.desc).map (fun d => d.parameters.length) = some 1 := by decide +kernel
abbrev b_Mo_output : ByteArray := prog_13_method_36_code
def y_Mo_output : MethodName := ⟨"ThreeClerksModel", "output", "(I)I"⟩
theorem yd_Mo_output : y_Mo_output.cls = "ThreeClerksModel" ∧ y_Mo_output.cls ≠ "java/lang/invoke/MethodHandle" ∧ y_Mo_output.cls ≠ "java/lang/invoke/VarHandle" ∧ (parseMethodDescriptor y_Mo_output.desc).map (fun d => d.parameters.length) = some 1 := by decide +kernel
abbrev b_Box_init : ByteArray := prog_2_method_1_code
def y_Box_init : MethodName := ⟨"ThreeClerks$Box", "<init>", "()V"⟩
theorem yd_Box_init : y_Box_init.cls ≠ "java/lang/invoke/MethodHandle" ∧ y_Box_init.cls ≠ "java/lang/invoke/VarHandle" ∧ (parseMethodDescriptor y_Box_init.desc).map (fun d => d.parameters.length) = some 0 := by decide +kernel
abbrev b_Box_clear : ByteArray := prog_2_method_2_code
def y_Box_clear : MethodName := ⟨"ThreeClerks$Box", "clear", "()V"⟩
theorem yd_Box_clear : y_Box_clear.cls = "ThreeClerks$Box" ∧ y_Box_clear.cls ≠ "java/lang/invoke/MethodHandle" ∧ y_Box_clear.cls ≠ "java/lang/invoke/VarHandle" ∧ (parseMethodDescriptor y_Box_clear.desc).map (fun d => d.parameters.length) = some 0 := by decide +kernel
abbrev b_Box_lay : ByteArray := prog_2_method_3_code
def y_Box_lay : MethodName := ⟨"ThreeClerks$Box", "lay", "(IJ)V"⟩
theorem yd_Box_lay : y_Box_lay.cls = "ThreeClerks$Box" ∧ y_Box_lay.cls ≠ "java/lang/invoke/MethodHandle" ∧ y_Box_lay.cls ≠ "java/lang/invoke/VarHandle" ∧ (parseMethodDescriptor y_Box_lay.desc).map (fun d => d.parameters.length) = some 2 := by decide +kernel
abbrev b_Box_has : ByteArray := prog_2_method_4_code
def y_Box_has : MethodName := ⟨"ThreeClerks$Box", "has", "(I)Z"⟩
theorem yd_Box_has : y_Box_has.cls = "ThreeClerks$Box" ∧ y_Box_has.cls ≠ "java/lang/invoke/MethodHandle" ∧ y_Box_has.cls ≠ "java/lang/invoke/VarHandle" ∧ (parseMethodDescriptor y_Box_has.desc).map (fun d => d.parameters.length) = some 1 := by decide +kernel
abbrev b_Box_at : ByteArray := prog_2_method_5_code
def y_Box_at : MethodName := ⟨"ThreeClerks$Box", "at", "(I)J"⟩
theorem yd_Box_at : y_Box_at.cls = "ThreeClerks$Box" ∧ y_Box_at.cls ≠ "java/lang/invoke/MethodHandle" ∧ y_Box_at.cls ≠ "java/lang/invoke/VarHandle" ∧ (parseMethodDescriptor y_Box_at.desc).map (fun d => d.parameters.length) = some 1 := by decide +kernel
abbrev b_Clerk_init : ByteArray := prog_3_method_1_code
def y_Clerk_init : MethodName := ⟨"ThreeClerks$Clerk", "<init>", "(I)V"⟩
theorem yd_Clerk_init : y_Clerk_init.cls ≠ "java/lang/invoke/MethodHandle" ∧ y_Clerk_init.cls ≠ "java/lang/invoke/VarHandle" ∧ (parseMethodDescriptor y_Clerk_init.desc).map (fun d => d.parameters.length) = some 1 := by decide +kernel
abbrev b_Clerk_prepare : ByteArray := prog_3_method_2_code
def y_Clerk_prepare : MethodName := ⟨"ThreeClerks$Clerk", "prepare", "(LThreeClerks$Script;JJI)V"⟩
theorem yd_Clerk_prepare : y_Clerk_prepare.cls = "ThreeClerks$Clerk" ∧ y_Clerk_prepare.cls ≠ "java/lang/invoke/MethodHandle" ∧ y_Clerk_prepare.cls ≠ "java/lang/invoke/VarHandle" ∧ (parseMethodDescriptor y_Clerk_prepare.desc).map (fun d => d.parameters.length) = some 4 := by decide +kernel
abbrev b_Clerk_hold : ByteArray := prog_3_method_3_code
def y_Clerk_hold : MethodName := ⟨"ThreeClerks$Clerk", "hold", "(III)V"⟩
theorem yd_Clerk_hold : y_Clerk_hold.cls = "ThreeClerks$Clerk" ∧ y_Clerk_hold.cls ≠ "java/lang/invoke/MethodHandle" ∧ y_Clerk_hold.cls ≠ "java/lang/invoke/VarHandle" ∧ (parseMethodDescriptor y_Clerk_hold.desc).map (fun d => d.parameters.length) = some 3 := by decide +kernel
abbrev b_Clerk_receive : ByteArray := prog_3_method_4_code
def y_Clerk_receive : MethodName := ⟨"ThreeClerks$Clerk", "receive", "(IJ)V"⟩
theorem yd_Clerk_receive : y_Clerk_receive.cls = "ThreeClerks$Clerk" ∧ y_Clerk_receive.cls ≠ "java/lang/invoke/MethodHandle" ∧ y_Clerk_receive.cls ≠ "java/lang/invoke/VarHandle" ∧ (parseMethodDescriptor y_Clerk_receive.desc).map (fun d => d.parameters.length) = some 2 := by decide +kernel
abbrev b_Clerk_copyOpened : ByteArray := prog_3_method_5_code
def y_Clerk_copyOpened : MethodName := ⟨"ThreeClerks$Clerk", "copyOpened", "([I)I"⟩
theorem yd_Clerk_copyOpened : y_Clerk_copyOpened.cls = "ThreeClerks$Clerk" ∧ y_Clerk_copyOpened.cls ≠ "java/lang/invoke/MethodHandle" ∧ y_Clerk_copyOpened.cls ≠ "java/lang/invoke/VarHandle" ∧ (parseMethodDescriptor y_Clerk_copyOpened.desc).map (fun d => d.parameters.length) = some 1 := by decide +kernel
abbrev b_Clerk_canStep : ByteArray := prog_3_method_6_code
def y_Clerk_canStep : MethodName := ⟨"ThreeClerks$Clerk", "canStep", "()Z"⟩
theorem yd_Clerk_canStep : y_Clerk_canStep.cls = "ThreeClerks$Clerk" ∧ y_Clerk_canStep.cls ≠ "java/lang/invoke/MethodHandle" ∧ y_Clerk_canStep.cls ≠ "java/lang/invoke/VarHandle" ∧ (parseMethodDescriptor y_Clerk_canStep.desc).map (fun d => d.parameters.length) = some 0 := by decide +kernel
abbrev b_Clerk_step : ByteArray := prog_3_method_7_code
def y_Clerk_step : MethodName := ⟨"ThreeClerks$Clerk", "step", "(LThreeClerks$Post;)V"⟩
theorem yd_Clerk_step : y_Clerk_step.cls = "ThreeClerks$Clerk" ∧ y_Clerk_step.cls ≠ "java/lang/invoke/MethodHandle" ∧ y_Clerk_step.cls ≠ "java/lang/invoke/VarHandle" ∧ (parseMethodDescriptor y_Clerk_step.desc).map (fun d => d.parameters.length) = some 1 := by decide +kernel
abbrev b_Clerk_beginTask : ByteArray := prog_3_method_8_code
def y_Clerk_beginTask : MethodName := ⟨"ThreeClerks$Clerk", "beginTask", "()V"⟩
theorem yd_Clerk_beginTask : y_Clerk_beginTask.cls = "ThreeClerks$Clerk" ∧ y_Clerk_beginTask.cls ≠ "java/lang/invoke/MethodHandle" ∧ y_Clerk_beginTask.cls ≠ "java/lang/invoke/VarHandle" ∧ (parseMethodDescriptor y_Clerk_beginTask.desc).map (fun d => d.parameters.length) = some 0 := by decide +kernel
abbrev b_Clerk_takeAnswer : ByteArray := prog_3_method_9_code
def y_Clerk_takeAnswer : MethodName := ⟨"ThreeClerks$Clerk", "takeAnswer", "()V"⟩
theorem yd_Clerk_takeAnswer : y_Clerk_takeAnswer.cls = "ThreeClerks$Clerk" ∧ y_Clerk_takeAnswer.cls ≠ "java/lang/invoke/MethodHandle" ∧ y_Clerk_takeAnswer.cls ≠ "java/lang/invoke/VarHandle" ∧ (parseMethodDescriptor y_Clerk_takeAnswer.desc).map (fun d => d.parameters.length) = some 0 := by decide +kernel
abbrev b_Clerk_sendPiece : ByteArray := prog_3_method_10_code
def y_Clerk_sendPiece : MethodName := ⟨"ThreeClerks$Clerk", "sendPiece", "(LThreeClerks$Post;)V"⟩
theorem yd_Clerk_sendPiece : y_Clerk_sendPiece.cls = "ThreeClerks$Clerk" ∧ y_Clerk_sendPiece.cls ≠ "java/lang/invoke/MethodHandle" ∧ y_Clerk_sendPiece.cls ≠ "java/lang/invoke/VarHandle" ∧ (parseMethodDescriptor y_Clerk_sendPiece.desc).map (fun d => d.parameters.length) = some 1 := by decide +kernel
abbrev b_Clerk_reckonAlone : ByteArray := prog_3_method_11_code
def y_Clerk_reckonAlone : MethodName := ⟨"ThreeClerks$Clerk", "reckonAlone", "(II)V"⟩
theorem yd_Clerk_reckonAlone : y_Clerk_reckonAlone.cls = "ThreeClerks$Clerk" ∧ y_Clerk_reckonAlone.cls ≠ "java/lang/invoke/MethodHandle" ∧ y_Clerk_reckonAlone.cls ≠ "java/lang/invoke/VarHandle" ∧ (parseMethodDescriptor y_Clerk_reckonAlone.desc).map (fun d => d.parameters.length) = some 2 := by decide +kernel
abbrev b_Clerk_beginComparison : ByteArray := prog_3_method_12_code
def y_Clerk_beginComparison : MethodName := ⟨"ThreeClerks$Clerk", "beginComparison", "(II)V"⟩
theorem yd_Clerk_beginComparison : y_Clerk_beginComparison.cls = "ThreeClerks$Clerk" ∧ y_Clerk_beginComparison.cls ≠ "java/lang/invoke/MethodHandle" ∧ y_Clerk_beginComparison.cls ≠ "java/lang/invoke/VarHandle" ∧ (parseMethodDescriptor y_Clerk_beginComparison.desc).map (fun d => d.parameters.length) = some 2 := by decide +kernel
abbrev b_Clerk_joinTwo : ByteArray := prog_3_method_13_code
def y_Clerk_joinTwo : MethodName := ⟨"ThreeClerks$Clerk", "joinTwo", "()V"⟩
theorem yd_Clerk_joinTwo : y_Clerk_joinTwo.cls = "ThreeClerks$Clerk" ∧ y_Clerk_joinTwo.cls ≠ "java/lang/invoke/MethodHandle" ∧ y_Clerk_joinTwo.cls ≠ "java/lang/invoke/VarHandle" ∧ (parseMethodDescriptor y_Clerk_joinTwo.desc).map (fun d => d.parameters.length) = some 0 := by decide +kernel
abbrev b_Clerk_joinAll : ByteArray := prog_3_method_14_code
def y_Clerk_joinAll : MethodName := ⟨"ThreeClerks$Clerk", "joinAll", "()V"⟩
theorem yd_Clerk_joinAll : y_Clerk_joinAll.cls = "ThreeClerks$Clerk" ∧ y_Clerk_joinAll.cls ≠ "java/lang/invoke/MethodHandle" ∧ y_Clerk_joinAll.cls ≠ "java/lang/invoke/VarHandle" ∧ (parseMethodDescriptor y_Clerk_joinAll.desc).map (fun d => d.parameters.length) = some 0 := by decide +kernel
abbrev b_Clerk_takeBit : ByteArray := prog_3_method_15_code
def y_Clerk_takeBit : MethodName := ⟨"ThreeClerks$Clerk", "takeBit", "()V"⟩
theorem yd_Clerk_takeBit : y_Clerk_takeBit.cls = "ThreeClerks$Clerk" ∧ y_Clerk_takeBit.cls ≠ "java/lang/invoke/MethodHandle" ∧ y_Clerk_takeBit.cls ≠ "java/lang/invoke/VarHandle" ∧ (parseMethodDescriptor y_Clerk_takeBit.desc).map (fun d => d.parameters.length) = some 0 := by decide +kernel
abbrev b_Clerk_takeLastProduct : ByteArray := prog_3_method_16_code
def y_Clerk_takeLastProduct : MethodName := ⟨"ThreeClerks$Clerk", "takeLastProduct", "()V"⟩
theorem yd_Clerk_takeLastProduct : y_Clerk_takeLastProduct.cls = "ThreeClerks$Clerk" ∧ y_Clerk_takeLastProduct.cls ≠ "java/lang/invoke/MethodHandle" ∧ y_Clerk_takeLastProduct.cls ≠ "java/lang/invoke/VarHandle" ∧ (parseMethodDescriptor y_Clerk_takeLastProduct.desc).map (fun d => d.parameters.length) = some 0 := by decide +kernel
abbrev b_Clerk_takeOpened : ByteArray := prog_3_method_17_code
def y_Clerk_takeOpened : MethodName := ⟨"ThreeClerks$Clerk", "takeOpened", "()V"⟩
theorem yd_Clerk_takeOpened : y_Clerk_takeOpened.cls = "ThreeClerks$Clerk" ∧ y_Clerk_takeOpened.cls ≠ "java/lang/invoke/MethodHandle" ∧ y_Clerk_takeOpened.cls ≠ "java/lang/invoke/VarHandle" ∧ (parseMethodDescriptor y_Clerk_takeOpened.desc).map (fun d => d.parameters.length) = some 0 := by decide +kernel
abbrev b_Clerk_load : ByteArray := prog_3_method_18_code
def y_Clerk_load : MethodName := ⟨"ThreeClerks$Clerk", "load", "(LThreeClerks$Parts;I)V"⟩
theorem yd_Clerk_load : y_Clerk_load.cls = "ThreeClerks$Clerk" ∧ y_Clerk_load.cls ≠ "java/lang/invoke/MethodHandle" ∧ y_Clerk_load.cls ≠ "java/lang/invoke/VarHandle" ∧ (parseMethodDescriptor y_Clerk_load.desc).map (fun d => d.parameters.length) = some 2 := by decide +kernel
abbrev b_Clerk_store : ByteArray := prog_3_method_19_code
def y_Clerk_store : MethodName := ⟨"ThreeClerks$Clerk", "store", "(ILThreeClerks$Parts;)V"⟩
theorem yd_Clerk_store : y_Clerk_store.cls = "ThreeClerks$Clerk" ∧ y_Clerk_store.cls ≠ "java/lang/invoke/MethodHandle" ∧ y_Clerk_store.cls ≠ "java/lang/invoke/VarHandle" ∧ (parseMethodDescriptor y_Clerk_store.desc).map (fun d => d.parameters.length) = some 2 := by decide +kernel
abbrev b_Comparison_init : ByteArray := prog_4_method_1_code
def y_Comparison_init : MethodName := ⟨"ThreeClerks$Comparison", "<init>", "(I)V"⟩
theorem yd_Comparison_init : y_Comparison_init.cls ≠ "java/lang/invoke/MethodHandle" ∧ y_Comparison_init.cls ≠ "java/lang/invoke/VarHandle" ∧ (parseMethodDescriptor y_Comparison_init.desc).map (fun d => d.parameters.length) = some 1 := by decide +kernel
abbrev b_Comparison_begin : ByteArray := prog_4_method_2_code
def y_Comparison_begin : MethodName := ⟨"ThreeClerks$Comparison", "begin", "(LThreeClerks$Parts;LThreeClerks$Parts;)V"⟩
theorem yd_Comparison_begin : y_Comparison_begin.cls = "ThreeClerks$Comparison" ∧ y_Comparison_begin.cls ≠ "java/lang/invoke/MethodHandle" ∧ y_Comparison_begin.cls ≠ "java/lang/invoke/VarHandle" ∧ (parseMethodDescriptor y_Comparison_begin.desc).map (fun d => d.parameters.length) = some 2 := by decide +kernel
abbrev b_Comparison_halves : ByteArray := prog_4_method_3_code
def y_Comparison_halves : MethodName := ⟨"ThreeClerks$Comparison", "halves", "(JJ)J"⟩
theorem yd_Comparison_halves : y_Comparison_halves.cls = "ThreeClerks$Comparison" ∧ y_Comparison_halves.cls ≠ "java/lang/invoke/MethodHandle" ∧ y_Comparison_halves.cls ≠ "java/lang/invoke/VarHandle" ∧ (parseMethodDescriptor y_Comparison_halves.desc).map (fun d => d.parameters.length) = some 2 := by decide +kernel
abbrev b_Comparison_isDone : ByteArray := prog_4_method_4_code
def y_Comparison_isDone : MethodName := ⟨"ThreeClerks$Comparison", "isDone", "()Z"⟩
theorem yd_Comparison_isDone : y_Comparison_isDone.cls = "ThreeClerks$Comparison" ∧ y_Comparison_isDone.cls ≠ "java/lang/invoke/MethodHandle" ∧ y_Comparison_isDone.cls ≠ "java/lang/invoke/VarHandle" ∧ (parseMethodDescriptor y_Comparison_isDone.desc).map (fun d => d.parameters.length) = some 0 := by decide +kernel
abbrev b_Comparison_giveResult : ByteArray := prog_4_method_5_code
def y_Comparison_giveResult : MethodName := ⟨"ThreeClerks$Comparison", "giveResult", "(LThreeClerks$Parts;)V"⟩
theorem yd_Comparison_giveResult : y_Comparison_giveResult.cls = "ThreeClerks$Comparison" ∧ y_Comparison_giveResult.cls ≠ "java/lang/invoke/MethodHandle" ∧ y_Comparison_giveResult.cls ≠ "java/lang/invoke/VarHandle" ∧ (parseMethodDescriptor y_Comparison_giveResult.desc).map (fun d => d.parameters.length) = some 1 := by decide +kernel
abbrev b_Comparison_ask : ByteArray := prog_4_method_6_code
def y_Comparison_ask : MethodName := ⟨"ThreeClerks$Comparison", "ask", "(LThreeClerks$Parts;LThreeClerks$Parts;)V"⟩
theorem yd_Comparison_ask : y_Comparison_ask.cls = "ThreeClerks$Comparison" ∧ y_Comparison_ask.cls ≠ "java/lang/invoke/MethodHandle" ∧ y_Comparison_ask.cls ≠ "java/lang/invoke/VarHandle" ∧ (parseMethodDescriptor y_Comparison_ask.desc).map (fun d => d.parameters.length) = some 2 := by decide +kernel
abbrev b_Comparison_accept : ByteArray := prog_4_method_7_code
def y_Comparison_accept : MethodName := ⟨"ThreeClerks$Comparison", "accept", "(LThreeClerks$Parts;)V"⟩
theorem yd_Comparison_accept : y_Comparison_accept.cls = "ThreeClerks$Comparison" ∧ y_Comparison_accept.cls ≠ "java/lang/invoke/MethodHandle" ∧ y_Comparison_accept.cls ≠ "java/lang/invoke/VarHandle" ∧ (parseMethodDescriptor y_Comparison_accept.desc).map (fun d => d.parameters.length) = some 1 := by decide +kernel
abbrev b_Comparison_acceptCarry : ByteArray := prog_4_method_8_code
def y_Comparison_acceptCarry : MethodName := ⟨"ThreeClerks$Comparison", "acceptCarry", "(LThreeClerks$Parts;)V"⟩
theorem yd_Comparison_acceptCarry : y_Comparison_acceptCarry.cls = "ThreeClerks$Comparison" ∧ y_Comparison_acceptCarry.cls ≠ "java/lang/invoke/MethodHandle" ∧ y_Comparison_acceptCarry.cls ≠ "java/lang/invoke/VarHandle" ∧ (parseMethodDescriptor y_Comparison_acceptCarry.desc).map (fun d => d.parameters.length) = some 1 := by decide +kernel
abbrev b_Comparison_acceptMade : ByteArray := prog_4_method_9_code
def y_Comparison_acceptMade : MethodName := ⟨"ThreeClerks$Comparison", "acceptMade", "(LThreeClerks$Parts;)V"⟩
theorem yd_Comparison_acceptMade : y_Comparison_acceptMade.cls = "ThreeClerks$Comparison" ∧ y_Comparison_acceptMade.cls ≠ "java/lang/invoke/MethodHandle" ∧ y_Comparison_acceptMade.cls ≠ "java/lang/invoke/VarHandle" ∧ (parseMethodDescriptor y_Comparison_acceptMade.desc).map (fun d => d.parameters.length) = some 1 := by decide +kernel
abbrev b_Comparison_acceptBorrow : ByteArray := prog_4_method_10_code
def y_Comparison_acceptBorrow : MethodName := ⟨"ThreeClerks$Comparison", "acceptBorrow", "(LThreeClerks$Parts;)V"⟩
theorem yd_Comparison_acceptBorrow : y_Comparison_acceptBorrow.cls = "ThreeClerks$Comparison" ∧ y_Comparison_acceptBorrow.cls ≠ "java/lang/invoke/MethodHandle" ∧ y_Comparison_acceptBorrow.cls ≠ "java/lang/invoke/VarHandle" ∧ (parseMethodDescriptor y_Comparison_acceptBorrow.desc).map (fun d => d.parameters.length) = some 1 := by decide +kernel
abbrev b_Comparison_acceptBorrowSpread : ByteArray := prog_4_method_11_code
def y_Comparison_acceptBorrowSpread : MethodName := ⟨"ThreeClerks$Comparison", "acceptBorrowSpread", "(LThreeClerks$Parts;)V"⟩
theorem yd_Comparison_acceptBorrowSpread : y_Comparison_acceptBorrowSpread.cls = "ThreeClerks$Comparison" ∧ y_Comparison_acceptBorrowSpread.cls ≠ "java/lang/invoke/MethodHandle" ∧ y_Comparison_acceptBorrowSpread.cls ≠ "java/lang/invoke/VarHandle" ∧ (parseMethodDescriptor y_Comparison_acceptBorrowSpread.desc).map (fun d => d.parameters.length) = some 1 := by decide +kernel
abbrev b_Office_init : ByteArray := prog_5_method_1_code
def y_Office_init : MethodName := ⟨"ThreeClerks$Office", "<init>", "()V"⟩
theorem yd_Office_init : y_Office_init.cls ≠ "java/lang/invoke/MethodHandle" ∧ y_Office_init.cls ≠ "java/lang/invoke/VarHandle" ∧ (parseMethodDescriptor y_Office_init.desc).map (fun d => d.parameters.length) = some 0 := by decide +kernel
abbrev b_Office_prepare : ByteArray := prog_5_method_2_code
def y_Office_prepare : MethodName := ⟨"ThreeClerks$Office", "prepare", "(LThreeClerks$Script;[JI)V"⟩
theorem yd_Office_prepare : y_Office_prepare.cls = "ThreeClerks$Office" ∧ y_Office_prepare.cls ≠ "java/lang/invoke/MethodHandle" ∧ y_Office_prepare.cls ≠ "java/lang/invoke/VarHandle" ∧ (parseMethodDescriptor y_Office_prepare.desc).map (fun d => d.parameters.length) = some 3 := by decide +kernel
abbrev b_Office_deal : ByteArray := prog_5_method_3_code
def y_Office_deal : MethodName := ⟨"ThreeClerks$Office", "deal", "(IIII)V"⟩
theorem yd_Office_deal : y_Office_deal.cls = "ThreeClerks$Office" ∧ y_Office_deal.cls ≠ "java/lang/invoke/MethodHandle" ∧ y_Office_deal.cls ≠ "java/lang/invoke/VarHandle" ∧ (parseMethodDescriptor y_Office_deal.desc).map (fun d => d.parameters.length) = some 4 := by decide +kernel
abbrev b_Office_carryOut : ByteArray := prog_5_method_4_code
def y_Office_carryOut : MethodName := ⟨"ThreeClerks$Office", "carryOut", "(I)V"⟩
theorem yd_Office_carryOut : y_Office_carryOut.cls = "ThreeClerks$Office" ∧ y_Office_carryOut.cls ≠ "java/lang/invoke/MethodHandle" ∧ y_Office_carryOut.cls ≠ "java/lang/invoke/VarHandle" ∧ (parseMethodDescriptor y_Office_carryOut.desc).map (fun d => d.parameters.length) = some 1 := by decide +kernel
abbrev b_Office_countReady : ByteArray := prog_5_method_5_code
def y_Office_countReady : MethodName := ⟨"ThreeClerks$Office", "countReady", "()I"⟩
theorem yd_Office_countReady : y_Office_countReady.cls = "ThreeClerks$Office" ∧ y_Office_countReady.cls ≠ "java/lang/invoke/MethodHandle" ∧ y_Office_countReady.cls ≠ "java/lang/invoke/VarHandle" ∧ (parseMethodDescriptor y_Office_countReady.desc).map (fun d => d.parameters.length) = some 0 := by decide +kernel
abbrev b_Office_makeMove : ByteArray := prog_5_method_6_code
def y_Office_makeMove : MethodName := ⟨"ThreeClerks$Office", "makeMove", "(I)V"⟩
theorem yd_Office_makeMove : y_Office_makeMove.cls = "ThreeClerks$Office" ∧ y_Office_makeMove.cls ≠ "java/lang/invoke/MethodHandle" ∧ y_Office_makeMove.cls ≠ "java/lang/invoke/VarHandle" ∧ (parseMethodDescriptor y_Office_makeMove.desc).map (fun d => d.parameters.length) = some 1 := by decide +kernel
abbrev b_Office_draw : ByteArray := prog_5_method_7_code
def y_Office_draw : MethodName := ⟨"ThreeClerks$Office", "draw", "(I)I"⟩
theorem yd_Office_draw : y_Office_draw.cls = "ThreeClerks$Office" ∧ y_Office_draw.cls ≠ "java/lang/invoke/MethodHandle" ∧ y_Office_draw.cls ≠ "java/lang/invoke/VarHandle" ∧ (parseMethodDescriptor y_Office_draw.desc).map (fun d => d.parameters.length) = some 1 := by decide +kernel
abbrev b_Office_copyOpened : ByteArray := prog_5_method_8_code
def y_Office_copyOpened : MethodName := ⟨"ThreeClerks$Office", "copyOpened", "([I)I"⟩
theorem yd_Office_copyOpened : y_Office_copyOpened.cls = "ThreeClerks$Office" ∧ y_Office_copyOpened.cls ≠ "java/lang/invoke/MethodHandle" ∧ y_Office_copyOpened.cls ≠ "java/lang/invoke/VarHandle" ∧ (parseMethodDescriptor y_Office_copyOpened.desc).map (fun d => d.parameters.length) = some 1 := by decide +kernel
abbrev b_Pads_init : ByteArray := prog_6_method_1_code
def y_Pads_init : MethodName := ⟨"ThreeClerks$Pads", "<init>", "()V"⟩
theorem yd_Pads_init : y_Pads_init.cls ≠ "java/lang/invoke/MethodHandle" ∧ y_Pads_init.cls ≠ "java/lang/invoke/VarHandle" ∧ (parseMethodDescriptor y_Pads_init.desc).map (fun d => d.parameters.length) = some 0 := by decide +kernel
abbrev b_Pads_set : ByteArray := prog_6_method_2_code
def y_Pads_set : MethodName := ⟨"ThreeClerks$Pads", "set", "(JJI)V"⟩
theorem yd_Pads_set : y_Pads_set.cls = "ThreeClerks$Pads" ∧ y_Pads_set.cls ≠ "java/lang/invoke/MethodHandle" ∧ y_Pads_set.cls ≠ "java/lang/invoke/VarHandle" ∧ (parseMethodDescriptor y_Pads_set.desc).map (fun d => d.parameters.length) = some 3 := by decide +kernel
abbrev b_Pads_difference : ByteArray := prog_6_method_3_code
def y_Pads_difference : MethodName := ⟨"ThreeClerks$Pads", "difference", "(I)J"⟩
theorem yd_Pads_difference : y_Pads_difference.cls = "ThreeClerks$Pads" ∧ y_Pads_difference.cls ≠ "java/lang/invoke/MethodHandle" ∧ y_Pads_difference.cls ≠ "java/lang/invoke/VarHandle" ∧ (parseMethodDescriptor y_Pads_difference.desc).map (fun d => d.parameters.length) = some 1 := by decide +kernel
abbrev b_Pads_xor : ByteArray := prog_6_method_4_code
def y_Pads_xor : MethodName := ⟨"ThreeClerks$Pads", "xor", "(I)J"⟩
theorem yd_Pads_xor : y_Pads_xor.cls = "ThreeClerks$Pads" ∧ y_Pads_xor.cls ≠ "java/lang/invoke/MethodHandle" ∧ y_Pads_xor.cls ≠ "java/lang/invoke/VarHandle" ∧ (parseMethodDescriptor y_Pads_xor.desc).map (fun d => d.parameters.length) = some 1 := by decide +kernel
abbrev b_Pads_key : ByteArray := prog_6_method_5_code
def y_Pads_key : MethodName := ⟨"ThreeClerks$Pads", "key", "(III)J"⟩
theorem yd_Pads_key : y_Pads_key.cls = "ThreeClerks$Pads" ∧ y_Pads_key.cls ≠ "java/lang/invoke/MethodHandle" ∧ y_Pads_key.cls ≠ "java/lang/invoke/VarHandle" ∧ (parseMethodDescriptor y_Pads_key.desc).map (fun d => d.parameters.length) = some 3 := by decide +kernel
abbrev b_Pads_pad : ByteArray := prog_6_method_6_code
def y_Pads_pad : MethodName := ⟨"ThreeClerks$Pads", "pad", "(JII)J"⟩
theorem yd_Pads_pad : y_Pads_pad.cls = "ThreeClerks$Pads" ∧ y_Pads_pad.cls ≠ "java/lang/invoke/MethodHandle" ∧ y_Pads_pad.cls ≠ "java/lang/invoke/VarHandle" ∧ (parseMethodDescriptor y_Pads_pad.desc).map (fun d => d.parameters.length) = some 3 := by decide +kernel
abbrev b_Pads_mix : ByteArray := prog_6_method_7_code
def y_Pads_mix : MethodName := ⟨"ThreeClerks$Pads", "mix", "(J)J"⟩
theorem yd_Pads_mix : y_Pads_mix.cls = "ThreeClerks$Pads" ∧ y_Pads_mix.cls ≠ "java/lang/invoke/MethodHandle" ∧ y_Pads_mix.cls ≠ "java/lang/invoke/VarHandle" ∧ (parseMethodDescriptor y_Pads_mix.desc).map (fun d => d.parameters.length) = some 1 := by decide +kernel
abbrev b_Parts_init : ByteArray := prog_7_method_1_code
def y_Parts_init : MethodName := ⟨"ThreeClerks$Parts", "<init>", "(I)V"⟩
theorem yd_Parts_init : y_Parts_init.cls ≠ "java/lang/invoke/MethodHandle" ∧ y_Parts_init.cls ≠ "java/lang/invoke/VarHandle" ∧ (parseMethodDescriptor y_Parts_init.desc).map (fun d => d.parameters.length) = some 1 := by decide +kernel
abbrev b_Parts_set : ByteArray := prog_7_method_2_code
def y_Parts_set : MethodName := ⟨"ThreeClerks$Parts", "set", "(JJ)V"⟩
theorem yd_Parts_set : y_Parts_set.cls = "ThreeClerks$Parts" ∧ y_Parts_set.cls ≠ "java/lang/invoke/MethodHandle" ∧ y_Parts_set.cls ≠ "java/lang/invoke/VarHandle" ∧ (parseMethodDescriptor y_Parts_set.desc).map (fun d => d.parameters.length) = some 2 := by decide +kernel
abbrev b_Parts_copy : ByteArray := prog_7_method_3_code
def y_Parts_copy : MethodName := ⟨"ThreeClerks$Parts", "copy", "(LThreeClerks$Parts;)V"⟩
theorem yd_Parts_copy : y_Parts_copy.cls = "ThreeClerks$Parts" ∧ y_Parts_copy.cls ≠ "java/lang/invoke/MethodHandle" ∧ y_Parts_copy.cls ≠ "java/lang/invoke/VarHandle" ∧ (parseMethodDescriptor y_Parts_copy.desc).map (fun d => d.parameters.length) = some 1 := by decide +kernel
abbrev b_Parts_setKnown : ByteArray := prog_7_method_4_code
def y_Parts_setKnown : MethodName := ⟨"ThreeClerks$Parts", "setKnown", "(J)V"⟩
theorem yd_Parts_setKnown : y_Parts_setKnown.cls = "ThreeClerks$Parts" ∧ y_Parts_setKnown.cls ≠ "java/lang/invoke/MethodHandle" ∧ y_Parts_setKnown.cls ≠ "java/lang/invoke/VarHandle" ∧ (parseMethodDescriptor y_Parts_setKnown.desc).map (fun d => d.parameters.length) = some 1 := by decide +kernel
abbrev b_Parts_add : ByteArray := prog_7_method_5_code
def y_Parts_add : MethodName := ⟨"ThreeClerks$Parts", "add", "(LThreeClerks$Parts;J)V"⟩
theorem yd_Parts_add : y_Parts_add.cls = "ThreeClerks$Parts" ∧ y_Parts_add.cls ≠ "java/lang/invoke/MethodHandle" ∧ y_Parts_add.cls ≠ "java/lang/invoke/VarHandle" ∧ (parseMethodDescriptor y_Parts_add.desc).map (fun d => d.parameters.length) = some 2 := by decide +kernel
abbrev b_Parts_xor : ByteArray := prog_7_method_6_code
def y_Parts_xor : MethodName := ⟨"ThreeClerks$Parts", "xor", "(LThreeClerks$Parts;)V"⟩
theorem yd_Parts_xor : y_Parts_xor.cls = "ThreeClerks$Parts" ∧ y_Parts_xor.cls ≠ "java/lang/invoke/MethodHandle" ∧ y_Parts_xor.cls ≠ "java/lang/invoke/VarHandle" ∧ (parseMethodDescriptor y_Parts_xor.desc).map (fun d => d.parameters.length) = some 1 := by decide +kernel
abbrev b_Parts_and : ByteArray := prog_7_method_7_code
def y_Parts_and : MethodName := ⟨"ThreeClerks$Parts", "and", "(J)V"⟩
theorem yd_Parts_and : y_Parts_and.cls = "ThreeClerks$Parts" ∧ y_Parts_and.cls ≠ "java/lang/invoke/MethodHandle" ∧ y_Parts_and.cls ≠ "java/lang/invoke/VarHandle" ∧ (parseMethodDescriptor y_Parts_and.desc).map (fun d => d.parameters.length) = some 1 := by decide +kernel
abbrev b_Parts_flip : ByteArray := prog_7_method_8_code
def y_Parts_flip : MethodName := ⟨"ThreeClerks$Parts", "flip", "(J)V"⟩
theorem yd_Parts_flip : y_Parts_flip.cls = "ThreeClerks$Parts" ∧ y_Parts_flip.cls ≠ "java/lang/invoke/MethodHandle" ∧ y_Parts_flip.cls ≠ "java/lang/invoke/VarHandle" ∧ (parseMethodDescriptor y_Parts_flip.desc).map (fun d => d.parameters.length) = some 1 := by decide +kernel
abbrev b_Parts_keep : ByteArray := prog_7_method_9_code
def y_Parts_keep : MethodName := ⟨"ThreeClerks$Parts", "keep", "(I)V"⟩
theorem yd_Parts_keep : y_Parts_keep.cls = "ThreeClerks$Parts" ∧ y_Parts_keep.cls ≠ "java/lang/invoke/MethodHandle" ∧ y_Parts_keep.cls ≠ "java/lang/invoke/VarHandle" ∧ (parseMethodDescriptor y_Parts_keep.desc).map (fun d => d.parameters.length) = some 1 := by decide +kernel
abbrev b_Parts_drop : ByteArray := prog_7_method_10_code
def y_Parts_drop : MethodName := ⟨"ThreeClerks$Parts", "drop", "(I)V"⟩
theorem yd_Parts_drop : y_Parts_drop.cls = "ThreeClerks$Parts" ∧ y_Parts_drop.cls ≠ "java/lang/invoke/MethodHandle" ∧ y_Parts_drop.cls ≠ "java/lang/invoke/VarHandle" ∧ (parseMethodDescriptor y_Parts_drop.desc).map (fun d => d.parameters.length) = some 1 := by decide +kernel
abbrev b_Parts_shiftDown : ByteArray := prog_7_method_11_code
def y_Parts_shiftDown : MethodName := ⟨"ThreeClerks$Parts", "shiftDown", "(I)V"⟩
theorem yd_Parts_shiftDown : y_Parts_shiftDown.cls = "ThreeClerks$Parts" ∧ y_Parts_shiftDown.cls ≠ "java/lang/invoke/MethodHandle" ∧ y_Parts_shiftDown.cls ≠ "java/lang/invoke/VarHandle" ∧ (parseMethodDescriptor y_Parts_shiftDown.desc).map (fun d => d.parameters.length) = some 1 := by decide +kernel
abbrev b_Parts_raiseHalves : ByteArray := prog_7_method_12_code
def y_Parts_raiseHalves : MethodName := ⟨"ThreeClerks$Parts", "raiseHalves", "(I)V"⟩
theorem yd_Parts_raiseHalves : y_Parts_raiseHalves.cls = "ThreeClerks$Parts" ∧ y_Parts_raiseHalves.cls ≠ "java/lang/invoke/MethodHandle" ∧ y_Parts_raiseHalves.cls ≠ "java/lang/invoke/VarHandle" ∧ (parseMethodDescriptor y_Parts_raiseHalves.desc).map (fun d => d.parameters.length) = some 1 := by decide +kernel
abbrev b_Parts_doubleHighHalf : ByteArray := prog_7_method_13_code
def y_Parts_doubleHighHalf : MethodName := ⟨"ThreeClerks$Parts", "doubleHighHalf", "()V"⟩
theorem yd_Parts_doubleHighHalf : y_Parts_doubleHighHalf.cls = "ThreeClerks$Parts" ∧ y_Parts_doubleHighHalf.cls ≠ "java/lang/invoke/MethodHandle" ∧ y_Parts_doubleHighHalf.cls ≠ "java/lang/invoke/VarHandle" ∧ (parseMethodDescriptor y_Parts_doubleHighHalf.desc).map (fun d => d.parameters.length) = some 0 := by decide +kernel
abbrev b_Post_init : ByteArray := prog_8_method_1_code
def y_Post_init : MethodName := ⟨"ThreeClerks$Post", "<init>", "()V"⟩
theorem yd_Post_init : y_Post_init.cls ≠ "java/lang/invoke/MethodHandle" ∧ y_Post_init.cls ≠ "java/lang/invoke/VarHandle" ∧ (parseMethodDescriptor y_Post_init.desc).map (fun d => d.parameters.length) = some 0 := by decide +kernel
abbrev b_Post_clear : ByteArray := prog_8_method_2_code
def y_Post_clear : MethodName := ⟨"ThreeClerks$Post", "clear", "()V"⟩
theorem yd_Post_clear : y_Post_clear.cls = "ThreeClerks$Post" ∧ y_Post_clear.cls ≠ "java/lang/invoke/MethodHandle" ∧ y_Post_clear.cls ≠ "java/lang/invoke/VarHandle" ∧ (parseMethodDescriptor y_Post_clear.desc).map (fun d => d.parameters.length) = some 0 := by decide +kernel
abbrev b_Post_size : ByteArray := prog_8_method_3_code
def y_Post_size : MethodName := ⟨"ThreeClerks$Post", "size", "()I"⟩
theorem yd_Post_size : y_Post_size.cls = "ThreeClerks$Post" ∧ y_Post_size.cls ≠ "java/lang/invoke/MethodHandle" ∧ y_Post_size.cls ≠ "java/lang/invoke/VarHandle" ∧ (parseMethodDescriptor y_Post_size.desc).map (fun d => d.parameters.length) = some 0 := by decide +kernel
abbrev b_Post_send : ByteArray := prog_8_method_4_code
def y_Post_send : MethodName := ⟨"ThreeClerks$Post", "send", "(IIJ)V"⟩
theorem yd_Post_send : y_Post_send.cls = "ThreeClerks$Post" ∧ y_Post_send.cls ≠ "java/lang/invoke/MethodHandle" ∧ y_Post_send.cls ≠ "java/lang/invoke/VarHandle" ∧ (parseMethodDescriptor y_Post_send.desc).map (fun d => d.parameters.length) = some 3 := by decide +kernel
abbrev b_Post_deliver : ByteArray := prog_8_method_5_code
def y_Post_deliver : MethodName := ⟨"ThreeClerks$Post", "deliver", "(I[LThreeClerks$Clerk;)V"⟩
theorem yd_Post_deliver : y_Post_deliver.cls = "ThreeClerks$Post" ∧ y_Post_deliver.cls ≠ "java/lang/invoke/MethodHandle" ∧ y_Post_deliver.cls ≠ "java/lang/invoke/VarHandle" ∧ (parseMethodDescriptor y_Post_deliver.desc).map (fun d => d.parameters.length) = some 2 := by decide +kernel
abbrev b_Reader_init : ByteArray := prog_9_method_1_code
def y_Reader_init : MethodName := ⟨"ThreeClerks$Reader", "<init>", "()V"⟩
theorem yd_Reader_init : y_Reader_init.cls ≠ "java/lang/invoke/MethodHandle" ∧ y_Reader_init.cls ≠ "java/lang/invoke/VarHandle" ∧ (parseMethodDescriptor y_Reader_init.desc).map (fun d => d.parameters.length) = some 0 := by decide +kernel
abbrev b_Reader_draft : ByteArray := prog_9_method_2_code
def y_Reader_draft : MethodName := ⟨"ThreeClerks$Reader", "draft", "()LThreeClerks$Script;"⟩
theorem yd_Reader_draft : y_Reader_draft.cls = "ThreeClerks$Reader" ∧ y_Reader_draft.cls ≠ "java/lang/invoke/MethodHandle" ∧ y_Reader_draft.cls ≠ "java/lang/invoke/VarHandle" ∧ (parseMethodDescriptor y_Reader_draft.desc).map (fun d => d.parameters.length) = some 0 := by decide +kernel
abbrev b_Reader_tokenBegin : ByteArray := prog_9_method_3_code
def y_Reader_tokenBegin : MethodName := ⟨"ThreeClerks$Reader", "tokenBegin", "()I"⟩
theorem yd_Reader_tokenBegin : y_Reader_tokenBegin.cls = "ThreeClerks$Reader" ∧ y_Reader_tokenBegin.cls ≠ "java/lang/invoke/MethodHandle" ∧ y_Reader_tokenBegin.cls ≠ "java/lang/invoke/VarHandle" ∧ (parseMethodDescriptor y_Reader_tokenBegin.desc).map (fun d => d.parameters.length) = some 0 := by decide +kernel
abbrev b_Reader_readScript : ByteArray := prog_9_method_4_code
def y_Reader_readScript : MethodName := ⟨"ThreeClerks$Reader", "readScript", "([CI)Z"⟩
theorem yd_Reader_readScript : y_Reader_readScript.cls = "ThreeClerks$Reader" ∧ y_Reader_readScript.cls ≠ "java/lang/invoke/MethodHandle" ∧ y_Reader_readScript.cls ≠ "java/lang/invoke/VarHandle" ∧ (parseMethodDescriptor y_Reader_readScript.desc).map (fun d => d.parameters.length) = some 2 := by decide +kernel
abbrev b_Reader_readStatement : ByteArray := prog_9_method_5_code
def y_Reader_readStatement : MethodName := ⟨"ThreeClerks$Reader", "readStatement", "()Z"⟩
theorem yd_Reader_readStatement : y_Reader_readStatement.cls = "ThreeClerks$Reader" ∧ y_Reader_readStatement.cls ≠ "java/lang/invoke/MethodHandle" ∧ y_Reader_readStatement.cls ≠ "java/lang/invoke/VarHandle" ∧ (parseMethodDescriptor y_Reader_readStatement.desc).map (fun d => d.parameters.length) = some 0 := by decide +kernel
abbrev b_Reader_readRow : ByteArray := prog_9_method_6_code
def y_Reader_readRow : MethodName := ⟨"ThreeClerks$Reader", "readRow", "(Z)Z"⟩
theorem yd_Reader_readRow : y_Reader_readRow.cls = "ThreeClerks$Reader" ∧ y_Reader_readRow.cls ≠ "java/lang/invoke/MethodHandle" ∧ y_Reader_readRow.cls ≠ "java/lang/invoke/VarHandle" ∧ (parseMethodDescriptor y_Reader_readRow.desc).map (fun d => d.parameters.length) = some 1 := by decide +kernel
abbrev b_Reader_readOpen : ByteArray := prog_9_method_7_code
def y_Reader_readOpen : MethodName := ⟨"ThreeClerks$Reader", "readOpen", "()Z"⟩
theorem yd_Reader_readOpen : y_Reader_readOpen.cls = "ThreeClerks$Reader" ∧ y_Reader_readOpen.cls ≠ "java/lang/invoke/MethodHandle" ∧ y_Reader_readOpen.cls ≠ "java/lang/invoke/VarHandle" ∧ (parseMethodDescriptor y_Reader_readOpen.desc).map (fun d => d.parameters.length) = some 0 := by decide +kernel
abbrev b_Reader_readAssignment : ByteArray := prog_9_method_8_code
def y_Reader_readAssignment : MethodName := ⟨"ThreeClerks$Reader", "readAssignment", "()Z"⟩
theorem yd_Reader_readAssignment : y_Reader_readAssignment.cls = "ThreeClerks$Reader" ∧ y_Reader_readAssignment.cls ≠ "java/lang/invoke/MethodHandle" ∧ y_Reader_readAssignment.cls ≠ "java/lang/invoke/VarHandle" ∧ (parseMethodDescriptor y_Reader_readAssignment.desc).map (fun d => d.parameters.length) = some 0 := by decide +kernel
abbrev b_Reader_readSecond : ByteArray := prog_9_method_9_code
def y_Reader_readSecond : MethodName := ⟨"ThreeClerks$Reader", "readSecond", "(III)Z"⟩
theorem yd_Reader_readSecond : y_Reader_readSecond.cls = "ThreeClerks$Reader" ∧ y_Reader_readSecond.cls ≠ "java/lang/invoke/MethodHandle" ∧ y_Reader_readSecond.cls ≠ "java/lang/invoke/VarHandle" ∧ (parseMethodDescriptor y_Reader_readSecond.desc).map (fun d => d.parameters.length) = some 3 := by decide +kernel
abbrev b_Reader_readChoice : ByteArray := prog_9_method_10_code
def y_Reader_readChoice : MethodName := ⟨"ThreeClerks$Reader", "readChoice", "(II)Z"⟩
theorem yd_Reader_readChoice : y_Reader_readChoice.cls = "ThreeClerks$Reader" ∧ y_Reader_readChoice.cls ≠ "java/lang/invoke/MethodHandle" ∧ y_Reader_readChoice.cls ≠ "java/lang/invoke/VarHandle" ∧ (parseMethodDescriptor y_Reader_readChoice.desc).map (fun d => d.parameters.length) = some 2 := by decide +kernel
abbrev b_Reader_readValue : ByteArray := prog_9_method_11_code
def y_Reader_readValue : MethodName := ⟨"ThreeClerks$Reader", "readValue", "()I"⟩
theorem yd_Reader_readValue : y_Reader_readValue.cls = "ThreeClerks$Reader" ∧ y_Reader_readValue.cls ≠ "java/lang/invoke/MethodHandle" ∧ y_Reader_readValue.cls ≠ "java/lang/invoke/VarHandle" ∧ (parseMethodDescriptor y_Reader_readValue.desc).map (fun d => d.parameters.length) = some 0 := by decide +kernel
abbrev b_Reader_kindOfSign : ByteArray := prog_9_method_12_code
def y_Reader_kindOfSign : MethodName := ⟨"ThreeClerks$Reader", "kindOfSign", "()I"⟩
theorem yd_Reader_kindOfSign : y_Reader_kindOfSign.cls = "ThreeClerks$Reader" ∧ y_Reader_kindOfSign.cls ≠ "java/lang/invoke/MethodHandle" ∧ y_Reader_kindOfSign.cls ≠ "java/lang/invoke/VarHandle" ∧ (parseMethodDescriptor y_Reader_kindOfSign.desc).map (fun d => d.parameters.length) = some 0 := by decide +kernel
abbrev b_Reader_is : ByteArray := prog_9_method_13_code
def y_Reader_is : MethodName := ⟨"ThreeClerks$Reader", "is", "(I)Z"⟩
theorem yd_Reader_is : y_Reader_is.cls = "ThreeClerks$Reader" ∧ y_Reader_is.cls ≠ "java/lang/invoke/MethodHandle" ∧ y_Reader_is.cls ≠ "java/lang/invoke/VarHandle" ∧ (parseMethodDescriptor y_Reader_is.desc).map (fun d => d.parameters.length) = some 1 := by decide +kernel
abbrev b_Reader_take : ByteArray := prog_9_method_14_code
def y_Reader_take : MethodName := ⟨"ThreeClerks$Reader", "take", "()I"⟩
theorem yd_Reader_take : y_Reader_take.cls = "ThreeClerks$Reader" ∧ y_Reader_take.cls ≠ "java/lang/invoke/MethodHandle" ∧ y_Reader_take.cls ≠ "java/lang/invoke/VarHandle" ∧ (parseMethodDescriptor y_Reader_take.desc).map (fun d => d.parameters.length) = some 0 := by decide +kernel
abbrev b_Reader_isSign : ByteArray := prog_9_method_15_code
def y_Reader_isSign : MethodName := ⟨"ThreeClerks$Reader", "isSign", "(C)Z"⟩
theorem yd_Reader_isSign : y_Reader_isSign.cls = "ThreeClerks$Reader" ∧ y_Reader_isSign.cls ≠ "java/lang/invoke/MethodHandle" ∧ y_Reader_isSign.cls ≠ "java/lang/invoke/VarHandle" ∧ (parseMethodDescriptor y_Reader_isSign.desc).map (fun d => d.parameters.length) = some 1 := by decide +kernel
abbrev b_Reader_takeSign : ByteArray := prog_9_method_16_code
def y_Reader_takeSign : MethodName := ⟨"ThreeClerks$Reader", "takeSign", "(C)Z"⟩
theorem yd_Reader_takeSign : y_Reader_takeSign.cls = "ThreeClerks$Reader" ∧ y_Reader_takeSign.cls ≠ "java/lang/invoke/MethodHandle" ∧ y_Reader_takeSign.cls ≠ "java/lang/invoke/VarHandle" ∧ (parseMethodDescriptor y_Reader_takeSign.desc).map (fun d => d.parameters.length) = some 1 := by decide +kernel
abbrev b_Reader_endsRowFrom : ByteArray := prog_9_method_17_code
def y_Reader_endsRowFrom : MethodName := ⟨"ThreeClerks$Reader", "endsRowFrom", "(I)Z"⟩
theorem yd_Reader_endsRowFrom : y_Reader_endsRowFrom.cls = "ThreeClerks$Reader" ∧ y_Reader_endsRowFrom.cls ≠ "java/lang/invoke/MethodHandle" ∧ y_Reader_endsRowFrom.cls ≠ "java/lang/invoke/VarHandle" ∧ (parseMethodDescriptor y_Reader_endsRowFrom.desc).map (fun d => d.parameters.length) = some 1 := by decide +kernel
abbrev b_Script_init : ByteArray := prog_10_method_1_code
def y_Script_init : MethodName := ⟨"ThreeClerks$Script", "<init>", "()V"⟩
theorem yd_Script_init : y_Script_init.cls ≠ "java/lang/invoke/MethodHandle" ∧ y_Script_init.cls ≠ "java/lang/invoke/VarHandle" ∧ (parseMethodDescriptor y_Script_init.desc).map (fun d => d.parameters.length) = some 0 := by decide +kernel
abbrev b_Script_clear : ByteArray := prog_10_method_2_code
def y_Script_clear : MethodName := ⟨"ThreeClerks$Script", "clear", "()V"⟩
theorem yd_Script_clear : y_Script_clear.cls = "ThreeClerks$Script" ∧ y_Script_clear.cls ≠ "java/lang/invoke/MethodHandle" ∧ y_Script_clear.cls ≠ "java/lang/invoke/VarHandle" ∧ (parseMethodDescriptor y_Script_clear.desc).map (fun d => d.parameters.length) = some 0 := by decide +kernel
abbrev b_Script_copy : ByteArray := prog_10_method_3_code
def y_Script_copy : MethodName := ⟨"ThreeClerks$Script", "copy", "(LThreeClerks$Script;)V"⟩
theorem yd_Script_copy : y_Script_copy.cls = "ThreeClerks$Script" ∧ y_Script_copy.cls ≠ "java/lang/invoke/MethodHandle" ∧ y_Script_copy.cls ≠ "java/lang/invoke/VarHandle" ∧ (parseMethodDescriptor y_Script_copy.desc).map (fun d => d.parameters.length) = some 1 := by decide +kernel
abbrev b_Script_add : ByteArray := prog_10_method_4_code
def y_Script_add : MethodName := ⟨"ThreeClerks$Script", "add", "(IIIII)V"⟩
theorem yd_Script_add : y_Script_add.cls = "ThreeClerks$Script" ∧ y_Script_add.cls ≠ "java/lang/invoke/MethodHandle" ∧ y_Script_add.cls ≠ "java/lang/invoke/VarHandle" ∧ (parseMethodDescriptor y_Script_add.desc).map (fun d => d.parameters.length) = some 5 := by decide +kernel
abbrev b_Script_name : ByteArray := prog_10_method_5_code
def y_Script_name : MethodName := ⟨"ThreeClerks$Script", "name", "(I)V"⟩
theorem yd_Script_name : y_Script_name.cls = "ThreeClerks$Script" ∧ y_Script_name.cls ≠ "java/lang/invoke/MethodHandle" ∧ y_Script_name.cls ≠ "java/lang/invoke/VarHandle" ∧ (parseMethodDescriptor y_Script_name.desc).map (fun d => d.parameters.length) = some 1 := by decide +kernel
abbrev b_Script_names : ByteArray := prog_10_method_6_code
def y_Script_names : MethodName := ⟨"ThreeClerks$Script", "names", "(I)Z"⟩
theorem yd_Script_names : y_Script_names.cls = "ThreeClerks$Script" ∧ y_Script_names.cls ≠ "java/lang/invoke/MethodHandle" ∧ y_Script_names.cls ≠ "java/lang/invoke/VarHandle" ∧ (parseMethodDescriptor y_Script_names.desc).map (fun d => d.parameters.length) = some 1 := by decide +kernel
abbrev b_Script_takeComparisons : ByteArray := prog_10_method_7_code
def y_Script_takeComparisons : MethodName := ⟨"ThreeClerks$Script", "takeComparisons", "(I)Z"⟩
theorem yd_Script_takeComparisons : y_Script_takeComparisons.cls = "ThreeClerks$Script" ∧ y_Script_takeComparisons.cls ≠ "java/lang/invoke/MethodHandle" ∧ y_Script_takeComparisons.cls ≠ "java/lang/invoke/VarHandle" ∧ (parseMethodDescriptor y_Script_takeComparisons.desc).map (fun d => d.parameters.length) = some 1 := by decide +kernel
abbrev b_Script_takeOpen : ByteArray := prog_10_method_8_code
def y_Script_takeOpen : MethodName := ⟨"ThreeClerks$Script", "takeOpen", "()Z"⟩
theorem yd_Script_takeOpen : y_Script_takeOpen.cls = "ThreeClerks$Script" ∧ y_Script_takeOpen.cls ≠ "java/lang/invoke/MethodHandle" ∧ y_Script_takeOpen.cls ≠ "java/lang/invoke/VarHandle" ∧ (parseMethodDescriptor y_Script_takeOpen.desc).map (fun d => d.parameters.length) = some 0 := by decide +kernel
abbrev b_Script_addSort : ByteArray := prog_10_method_9_code
def y_Script_addSort : MethodName := ⟨"ThreeClerks$Script", "addSort", "(II)V"⟩
theorem yd_Script_addSort : y_Script_addSort.cls = "ThreeClerks$Script" ∧ y_Script_addSort.cls ≠ "java/lang/invoke/MethodHandle" ∧ y_Script_addSort.cls ≠ "java/lang/invoke/VarHandle" ∧ (parseMethodDescriptor y_Script_addSort.desc).map (fun d => d.parameters.length) = some 2 := by decide +kernel
abbrev b_Script_addSums : ByteArray := prog_10_method_10_code
def y_Script_addSums : MethodName := ⟨"ThreeClerks$Script", "addSums", "(II)V"⟩
theorem yd_Script_addSums : y_Script_addSums.cls = "ThreeClerks$Script" ∧ y_Script_addSums.cls ≠ "java/lang/invoke/MethodHandle" ∧ y_Script_addSums.cls ≠ "java/lang/invoke/VarHandle" ∧ (parseMethodDescriptor y_Script_addSums.desc).map (fun d => d.parameters.length) = some 2 := by decide +kernel
abbrev b_Tokens_init : ByteArray := prog_11_method_1_code
def y_Tokens_init : MethodName := ⟨"ThreeClerks$Tokens", "<init>", "()V"⟩
theorem yd_Tokens_init : y_Tokens_init.cls ≠ "java/lang/invoke/MethodHandle" ∧ y_Tokens_init.cls ≠ "java/lang/invoke/VarHandle" ∧ (parseMethodDescriptor y_Tokens_init.desc).map (fun d => d.parameters.length) = some 0 := by decide +kernel
abbrev b_Tokens_scan : ByteArray := prog_11_method_2_code
def y_Tokens_scan : MethodName := ⟨"ThreeClerks$Tokens", "scan", "([CI)V"⟩
theorem yd_Tokens_scan : y_Tokens_scan.cls = "ThreeClerks$Tokens" ∧ y_Tokens_scan.cls ≠ "java/lang/invoke/MethodHandle" ∧ y_Tokens_scan.cls ≠ "java/lang/invoke/VarHandle" ∧ (parseMethodDescriptor y_Tokens_scan.desc).map (fun d => d.parameters.length) = some 2 := by decide +kernel
abbrev b_Tokens_add : ByteArray := prog_11_method_3_code
def y_Tokens_add : MethodName := ⟨"ThreeClerks$Tokens", "add", "(III)V"⟩
theorem yd_Tokens_add : y_Tokens_add.cls = "ThreeClerks$Tokens" ∧ y_Tokens_add.cls ≠ "java/lang/invoke/MethodHandle" ∧ y_Tokens_add.cls ≠ "java/lang/invoke/VarHandle" ∧ (parseMethodDescriptor y_Tokens_add.desc).map (fun d => d.parameters.length) = some 3 := by decide +kernel
abbrev b_Tokens_scanToken : ByteArray := prog_11_method_4_code
def y_Tokens_scanToken : MethodName := ⟨"ThreeClerks$Tokens", "scanToken", "(II)I"⟩
theorem yd_Tokens_scanToken : y_Tokens_scanToken.cls = "ThreeClerks$Tokens" ∧ y_Tokens_scanToken.cls ≠ "java/lang/invoke/MethodHandle" ∧ y_Tokens_scanToken.cls ≠ "java/lang/invoke/VarHandle" ∧ (parseMethodDescriptor y_Tokens_scanToken.desc).map (fun d => d.parameters.length) = some 2 := by decide +kernel
abbrev b_Tokens_scanWord : ByteArray := prog_11_method_5_code
def y_Tokens_scanWord : MethodName := ⟨"ThreeClerks$Tokens", "scanWord", "(II)I"⟩
theorem yd_Tokens_scanWord : y_Tokens_scanWord.cls = "ThreeClerks$Tokens" ∧ y_Tokens_scanWord.cls ≠ "java/lang/invoke/MethodHandle" ∧ y_Tokens_scanWord.cls ≠ "java/lang/invoke/VarHandle" ∧ (parseMethodDescriptor y_Tokens_scanWord.desc).map (fun d => d.parameters.length) = some 2 := by decide +kernel
abbrev b_Tokens_scanNumber : ByteArray := prog_11_method_6_code
def y_Tokens_scanNumber : MethodName := ⟨"ThreeClerks$Tokens", "scanNumber", "(II)I"⟩
theorem yd_Tokens_scanNumber : y_Tokens_scanNumber.cls = "ThreeClerks$Tokens" ∧ y_Tokens_scanNumber.cls ≠ "java/lang/invoke/MethodHandle" ∧ y_Tokens_scanNumber.cls ≠ "java/lang/invoke/VarHandle" ∧ (parseMethodDescriptor y_Tokens_scanNumber.desc).map (fun d => d.parameters.length) = some 2 := by decide +kernel
abbrev b_Tokens_isWord : ByteArray := prog_11_method_7_code
def y_Tokens_isWord : MethodName := ⟨"ThreeClerks$Tokens", "isWord", "(Ljava/lang/String;II)Z"⟩
theorem yd_Tokens_isWord : y_Tokens_isWord.cls = "ThreeClerks$Tokens" ∧ y_Tokens_isWord.cls ≠ "java/lang/invoke/MethodHandle" ∧ y_Tokens_isWord.cls ≠ "java/lang/invoke/VarHandle" ∧ (parseMethodDescriptor y_Tokens_isWord.desc).map (fun d => d.parameters.length) = some 3 := by decide +kernel
abbrev b_Tokens_isLetter : ByteArray := prog_11_method_8_code
def y_Tokens_isLetter : MethodName := ⟨"ThreeClerks$Tokens", "isLetter", "(C)Z"⟩
theorem yd_Tokens_isLetter : y_Tokens_isLetter.cls = "ThreeClerks$Tokens" ∧ y_Tokens_isLetter.cls ≠ "java/lang/invoke/MethodHandle" ∧ y_Tokens_isLetter.cls ≠ "java/lang/invoke/VarHandle" ∧ (parseMethodDescriptor y_Tokens_isLetter.desc).map (fun d => d.parameters.length) = some 1 := by decide +kernel
abbrev b_Tokens_isDecimal : ByteArray := prog_11_method_9_code
def y_Tokens_isDecimal : MethodName := ⟨"ThreeClerks$Tokens", "isDecimal", "(C)Z"⟩
theorem yd_Tokens_isDecimal : y_Tokens_isDecimal.cls = "ThreeClerks$Tokens" ∧ y_Tokens_isDecimal.cls ≠ "java/lang/invoke/MethodHandle" ∧ y_Tokens_isDecimal.cls ≠ "java/lang/invoke/VarHandle" ∧ (parseMethodDescriptor y_Tokens_isDecimal.desc).map (fun d => d.parameters.length) = some 1 := by decide +kernel
abbrev b_JCharacter_highSurrogate : ByteArray := prog_14_method_28_code
def y_JCharacter_highSurrogate : MethodName := ⟨"java/lang/Character", "highSurrogate", "(I)C"⟩
theorem yd_JCharacter_highSurrogate : y_JCharacter_highSurrogate.cls = "java/lang/Character" ∧ y_JCharacter_highSurrogate.cls ≠ "java/lang/invoke/MethodHandle" ∧ y_JCharacter_highSurrogate.cls ≠ "java/lang/invoke/VarHandle" ∧ (parseMethodDescriptor y_JCharacter_highSurrogate.desc).map (fun d => d.parameters.length) = some 1 := by decide +kernel
abbrev b_JCharacter_isValidCodePoint : ByteArray := prog_14_method_11_code
def y_JCharacter_isValidCodePoint : MethodName := ⟨"java/lang/Character", "isValidCodePoint", "(I)Z"⟩
theorem yd_JCharacter_isValidCodePoint : y_JCharacter_isValidCodePoint.cls = "java/lang/Character" ∧ y_JCharacter_isValidCodePoint.cls ≠ "java/lang/invoke/MethodHandle" ∧ y_JCharacter_isValidCodePoint.cls ≠ "java/lang/invoke/VarHandle" ∧ (parseMethodDescriptor y_JCharacter_isValidCodePoint.desc).map (fun d => d.parameters.length) = some 1 := by decide +kernel
abbrev b_JCharacter_lowSurrogate : ByteArray := prog_14_method_29_code
def y_JCharacter_lowSurrogate : MethodName := ⟨"java/lang/Character", "lowSurrogate", "(I)C"⟩
theorem yd_JCharacter_lowSurrogate : y_JCharacter_lowSurrogate.cls = "java/lang/Character" ∧ y_JCharacter_lowSurrogate.cls ≠ "java/lang/invoke/MethodHandle" ∧ y_JCharacter_lowSurrogate.cls ≠ "java/lang/invoke/VarHandle" ∧ (parseMethodDescriptor y_JCharacter_lowSurrogate.desc).map (fun d => d.parameters.length) = some 1 := by decide +kernel
abbrev b_JException_init : ByteArray := prog_15_method_2_code
def y_JException_init : MethodName := ⟨"java/lang/Exception", "<init>", "(Ljava/lang/String;)V"⟩
theorem yd_JException_init : y_JException_init.cls ≠ "java/lang/invoke/MethodHandle" ∧ y_JException_init.cls ≠ "java/lang/invoke/VarHandle" ∧ (parseMethodDescriptor y_JException_init.desc).map (fun d => d.parameters.length) = some 1 := by decide +kernel
abbrev b_JIllegalArgumentException_init : ByteArray := prog_16_method_2_code
def y_JIllegalArgumentException_init : MethodName := ⟨"java/lang/IllegalArgumentException", "<init>", "(Ljava/lang/String;)V"⟩
theorem yd_JIllegalArgumentException_init : y_JIllegalArgumentException_init.cls ≠ "java/lang/invoke/MethodHandle" ∧ y_JIllegalArgumentException_init.cls ≠ "java/lang/invoke/VarHandle" ∧ (parseMethodDescriptor y_JIllegalArgumentException_init.desc).map (fun d => d.parameters.length) = some 1 := by decide +kernel
abbrev b_JIllegalStateException_init : ByteArray := prog_17_method_2_code
def y_JIllegalStateException_init : MethodName := ⟨"java/lang/IllegalStateException", "<init>", "(Ljava/lang/String;)V"⟩
theorem yd_JIllegalStateException_init : y_JIllegalStateException_init.cls ≠ "java/lang/invoke/MethodHandle" ∧ y_JIllegalStateException_init.cls ≠ "java/lang/invoke/VarHandle" ∧ (parseMethodDescriptor y_JIllegalStateException_init.desc).map (fun d => d.parameters.length) = some 1 := by decide +kernel
abbrev b_JIndexOutOfBoundsException_init : ByteArray := prog_18_method_2_code
def y_JIndexOutOfBoundsException_init : MethodName := ⟨"java/lang/IndexOutOfBoundsException", "<init>", "(Ljava/lang/String;)V"⟩
theorem yd_JIndexOutOfBoundsException_init : y_JIndexOutOfBoundsException_init.cls ≠ "java/lang/invoke/MethodHandle" ∧ y_JIndexOutOfBoundsException_init.cls ≠ "java/lang/invoke/VarHandle" ∧ (parseMethodDescriptor y_JIndexOutOfBoundsException_init.desc).map (fun d => d.parameters.length) = some 1 := by decide +kernel
abbrev b_JLong_rotateLeft : ByteArray := prog_19_method_51_code
def y_JLong_rotateLeft : MethodName := ⟨"java/lang/Long", "rotateLeft", "(JI)J"⟩
theorem yd_JLong_rotateLeft : y_JLong_rotateLeft.cls = "java/lang/Long" ∧ y_JLong_rotateLeft.cls ≠ "java/lang/invoke/MethodHandle" ∧ y_JLong_rotateLeft.cls ≠ "java/lang/invoke/VarHandle" ∧ (parseMethodDescriptor y_JLong_rotateLeft.desc).map (fun d => d.parameters.length) = some 2 := by decide +kernel
abbrev b_JMath_floorMod : ByteArray := prog_20_method_50_code
def y_JMath_floorMod : MethodName := ⟨"java/lang/Math", "floorMod", "(II)I"⟩
theorem yd_JMath_floorMod : y_JMath_floorMod.cls = "java/lang/Math" ∧ y_JMath_floorMod.cls ≠ "java/lang/invoke/MethodHandle" ∧ y_JMath_floorMod.cls ≠ "java/lang/invoke/VarHandle" ∧ (parseMethodDescriptor y_JMath_floorMod.desc).map (fun d => d.parameters.length) = some 2 := by decide +kernel
abbrev b_JMath_max : ByteArray := prog_20_method_65_code
def y_JMath_max : MethodName := ⟨"java/lang/Math", "max", "(II)I"⟩
theorem yd_JMath_max : y_JMath_max.cls = "java/lang/Math" ∧ y_JMath_max.cls ≠ "java/lang/invoke/MethodHandle" ∧ y_JMath_max.cls ≠ "java/lang/invoke/VarHandle" ∧ (parseMethodDescriptor y_JMath_max.desc).map (fun d => d.parameters.length) = some 2 := by decide +kernel
abbrev b_JMath_min : ByteArray := prog_20_method_69_code
def y_JMath_min : MethodName := ⟨"java/lang/Math", "min", "(II)I"⟩
theorem yd_JMath_min : y_JMath_min.cls = "java/lang/Math" ∧ y_JMath_min.cls ≠ "java/lang/invoke/MethodHandle" ∧ y_JMath_min.cls ≠ "java/lang/invoke/VarHandle" ∧ (parseMethodDescriptor y_JMath_min.desc).map (fun d => d.parameters.length) = some 2 := by decide +kernel
abbrev b_JRuntimeException_init : ByteArray := prog_21_method_2_code
def y_JRuntimeException_init : MethodName := ⟨"java/lang/RuntimeException", "<init>", "(Ljava/lang/String;)V"⟩
theorem yd_JRuntimeException_init : y_JRuntimeException_init.cls ≠ "java/lang/invoke/MethodHandle" ∧ y_JRuntimeException_init.cls ≠ "java/lang/invoke/VarHandle" ∧ (parseMethodDescriptor y_JRuntimeException_init.desc).map (fun d => d.parameters.length) = some 1 := by decide +kernel
abbrev b_JString_charAt : ByteArray := prog_22_method_56_code
def y_JString_charAt : MethodName := ⟨"java/lang/String", "charAt", "(I)C"⟩
theorem yd_JString_charAt : y_JString_charAt.cls = "java/lang/String" ∧ y_JString_charAt.cls ≠ "java/lang/invoke/MethodHandle" ∧ y_JString_charAt.cls ≠ "java/lang/invoke/VarHandle" ∧ (parseMethodDescriptor y_JString_charAt.desc).map (fun d => d.parameters.length) = some 1 := by decide +kernel
abbrev b_JString_checkBoundsBeginEnd : ByteArray := prog_22_method_158_code
def y_JString_checkBoundsBeginEnd : MethodName := ⟨"java/lang/String", "checkBoundsBeginEnd", "(III)V"⟩
theorem yd_JString_checkBoundsBeginEnd : y_JString_checkBoundsBeginEnd.cls = "java/lang/String" ∧ y_JString_checkBoundsBeginEnd.cls ≠ "java/lang/invoke/MethodHandle" ∧ y_JString_checkBoundsBeginEnd.cls ≠ "java/lang/invoke/VarHandle" ∧ (parseMethodDescriptor y_JString_checkBoundsBeginEnd.desc).map (fun d => d.parameters.length) = some 3 := by decide +kernel
abbrev b_JString_checkIndex : ByteArray := prog_22_method_155_code
def y_JString_checkIndex : MethodName := ⟨"java/lang/String", "checkIndex", "(II)V"⟩
theorem yd_JString_checkIndex : y_JString_checkIndex.cls = "java/lang/String" ∧ y_JString_checkIndex.cls ≠ "java/lang/invoke/MethodHandle" ∧ y_JString_checkIndex.cls ≠ "java/lang/invoke/VarHandle" ∧ (parseMethodDescriptor y_JString_checkIndex.desc).map (fun d => d.parameters.length) = some 2 := by decide +kernel
abbrev b_JString_coder : ByteArray := prog_22_method_152_code
def y_JString_coder : MethodName := ⟨"java/lang/String", "coder", "()B"⟩
theorem yd_JString_coder : y_JString_coder.cls = "java/lang/String" ∧ y_JString_coder.cls ≠ "java/lang/invoke/MethodHandle" ∧ y_JString_coder.cls ≠ "java/lang/invoke/VarHandle" ∧ (parseMethodDescriptor y_JString_coder.desc).map (fun d => d.parameters.length) = some 0 := by decide +kernel
abbrev b_JString_indexOf0 : ByteArray := prog_22_method_79_code
def y_JString_indexOf0 : MethodName := ⟨"java/lang/String", "indexOf", "(I)I"⟩
theorem yd_JString_indexOf0 : y_JString_indexOf0.cls = "java/lang/String" ∧ y_JString_indexOf0.cls ≠ "java/lang/invoke/MethodHandle" ∧ y_JString_indexOf0.cls ≠ "java/lang/invoke/VarHandle" ∧ (parseMethodDescriptor y_JString_indexOf0.desc).map (fun d => d.parameters.length) = some 1 := by decide +kernel
abbrev b_JString_indexOf1 : ByteArray := prog_22_method_80_code
def y_JString_indexOf1 : MethodName := ⟨"java/lang/String", "indexOf", "(II)I"⟩
theorem yd_JString_indexOf1 : y_JString_indexOf1.cls = "java/lang/String" ∧ y_JString_indexOf1.cls ≠ "java/lang/invoke/MethodHandle" ∧ y_JString_indexOf1.cls ≠ "java/lang/invoke/VarHandle" ∧ (parseMethodDescriptor y_JString_indexOf1.desc).map (fun d => d.parameters.length) = some 2 := by decide +kernel
abbrev b_JString_isLatin1 : ByteArray := prog_22_method_154_code
def y_JString_isLatin1 : MethodName := ⟨"java/lang/String", "isLatin1", "()Z"⟩
theorem yd_JString_isLatin1 : y_JString_isLatin1.cls = "java/lang/String" ∧ y_JString_isLatin1.cls ≠ "java/lang/invoke/MethodHandle" ∧ y_JString_isLatin1.cls ≠ "java/lang/invoke/VarHandle" ∧ (parseMethodDescriptor y_JString_isLatin1.desc).map (fun d => d.parameters.length) = some 0 := by decide +kernel
abbrev b_JString_length : ByteArray := prog_22_method_54_code
def y_JString_length : MethodName := ⟨"java/lang/String", "length", "()I"⟩
theorem yd_JString_length : y_JString_length.cls = "java/lang/String" ∧ y_JString_length.cls ≠ "java/lang/invoke/MethodHandle" ∧ y_JString_length.cls ≠ "java/lang/invoke/VarHandle" ∧ (parseMethodDescriptor y_JString_length.desc).map (fun d => d.parameters.length) = some 0 := by decide +kernel
abbrev b_JStringLatin1_canEncode : ByteArray := prog_23_method_4_code
def y_JStringLatin1_canEncode : MethodName := ⟨"java/lang/StringLatin1", "canEncode", "(I)Z"⟩
theorem yd_JStringLatin1_canEncode : y_JStringLatin1_canEncode.cls = "java/lang/StringLatin1" ∧ y_JStringLatin1_canEncode.cls ≠ "java/lang/invoke/MethodHandle" ∧ y_JStringLatin1_canEncode.cls ≠ "java/lang/invoke/VarHandle" ∧ (parseMethodDescriptor y_JStringLatin1_canEncode.desc).map (fun d => d.parameters.length) = some 1 := by decide +kernel
abbrev b_JStringLatin1_charAt : ByteArray := prog_23_method_2_code
def y_JStringLatin1_charAt : MethodName := ⟨"java/lang/StringLatin1", "charAt", "([BI)C"⟩
theorem yd_JStringLatin1_charAt : y_JStringLatin1_charAt.cls = "java/lang/StringLatin1" ∧ y_JStringLatin1_charAt.cls ≠ "java/lang/invoke/MethodHandle" ∧ y_JStringLatin1_charAt.cls ≠ "java/lang/invoke/VarHandle" ∧ (parseMethodDescriptor y_JStringLatin1_charAt.desc).map (fun d => d.parameters.length) = some 2 := by decide +kernel
abbrev b_JStringLatin1_indexOfChar : ByteArray := prog_23_method_23_code
def y_JStringLatin1_indexOfChar : MethodName := ⟨"java/lang/StringLatin1", "indexOfChar", "([BIII)I"⟩
theorem yd_JStringLatin1_indexOfChar : y_JStringLatin1_indexOfChar.cls = "java/lang/StringLatin1" ∧ y_JStringLatin1_indexOfChar.cls ≠ "java/lang/invoke/MethodHandle" ∧ y_JStringLatin1_indexOfChar.cls ≠ "java/lang/invoke/VarHandle" ∧ (parseMethodDescriptor y_JStringLatin1_indexOfChar.desc).map (fun d => d.parameters.length) = some 4 := by decide +kernel
abbrev b_JStringUTF16_charAt : ByteArray := prog_24_method_83_code
def y_JStringUTF16_charAt : MethodName := ⟨"java/lang/StringUTF16", "charAt", "([BI)C"⟩
theorem yd_JStringUTF16_charAt : y_JStringUTF16_charAt.cls = "java/lang/StringUTF16" ∧ y_JStringUTF16_charAt.cls ≠ "java/lang/invoke/MethodHandle" ∧ y_JStringUTF16_charAt.cls ≠ "java/lang/invoke/VarHandle" ∧ (parseMethodDescriptor y_JStringUTF16_charAt.desc).map (fun d => d.parameters.length) = some 2 := by decide +kernel
abbrev b_JStringUTF16_checkBoundsBeginEnd : ByteArray := prog_24_method_93_code
def y_JStringUTF16_checkBoundsBeginEnd : MethodName := ⟨"java/lang/StringUTF16", "checkBoundsBeginEnd", "(II[B)V"⟩
theorem yd_JStringUTF16_checkBoundsBeginEnd : y_JStringUTF16_checkBoundsBeginEnd.cls = "java/lang/StringUTF16" ∧ y_JStringUTF16_checkBoundsBeginEnd.cls ≠ "java/lang/invoke/MethodHandle" ∧ y_JStringUTF16_checkBoundsBeginEnd.cls ≠ "java/lang/invoke/VarHandle" ∧ (parseMethodDescriptor y_JStringUTF16_checkBoundsBeginEnd.desc).map (fun d => d.parameters.length) = some 3 := by decide +kernel
abbrev b_JStringUTF16_checkIndex : ByteArray := prog_24_method_91_code
def y_JStringUTF16_checkIndex : MethodName := ⟨"java/lang/StringUTF16", "checkIndex", "(I[B)V"⟩
theorem yd_JStringUTF16_checkIndex : y_JStringUTF16_checkIndex.cls = "java/lang/StringUTF16" ∧ y_JStringUTF16_checkIndex.cls ≠ "java/lang/invoke/MethodHandle" ∧ y_JStringUTF16_checkIndex.cls ≠ "java/lang/invoke/VarHandle" ∧ (parseMethodDescriptor y_JStringUTF16_checkIndex.desc).map (fun d => d.parameters.length) = some 2 := by decide +kernel
abbrev b_JStringUTF16_getChar : ByteArray := prog_24_method_5_code
def y_JStringUTF16_getChar : MethodName := ⟨"java/lang/StringUTF16", "getChar", "([BI)C"⟩
theorem yd_JStringUTF16_getChar : y_JStringUTF16_getChar.cls = "java/lang/StringUTF16" ∧ y_JStringUTF16_getChar.cls ≠ "java/lang/invoke/MethodHandle" ∧ y_JStringUTF16_getChar.cls ≠ "java/lang/invoke/VarHandle" ∧ (parseMethodDescriptor y_JStringUTF16_getChar.desc).map (fun d => d.parameters.length) = some 2 := by decide +kernel
abbrev b_JStringUTF16_indexOfChar : ByteArray := prog_24_method_47_code
def y_JStringUTF16_indexOfChar : MethodName := ⟨"java/lang/StringUTF16", "indexOfChar", "([BIII)I"⟩
theorem yd_JStringUTF16_indexOfChar : y_JStringUTF16_indexOfChar.cls = "java/lang/StringUTF16" ∧ y_JStringUTF16_indexOfChar.cls ≠ "java/lang/invoke/MethodHandle" ∧ y_JStringUTF16_indexOfChar.cls ≠ "java/lang/invoke/VarHandle" ∧ (parseMethodDescriptor y_JStringUTF16_indexOfChar.desc).map (fun d => d.parameters.length) = some 4 := by decide +kernel
abbrev b_JStringUTF16_indexOfCharUnsafe : ByteArray := prog_24_method_48_code
def y_JStringUTF16_indexOfCharUnsafe : MethodName := ⟨"java/lang/StringUTF16", "indexOfCharUnsafe", "([BIII)I"⟩
theorem yd_JStringUTF16_indexOfCharUnsafe : y_JStringUTF16_indexOfCharUnsafe.cls = "java/lang/StringUTF16" ∧ y_JStringUTF16_indexOfCharUnsafe.cls ≠ "java/lang/invoke/MethodHandle" ∧ y_JStringUTF16_indexOfCharUnsafe.cls ≠ "java/lang/invoke/VarHandle" ∧ (parseMethodDescriptor y_JStringUTF16_indexOfCharUnsafe.desc).map (fun d => d.parameters.length) = some 4 := by decide +kernel
abbrev b_JStringUTF16_indexOfSupplementary : ByteArray := prog_24_method_49_code
def y_JStringUTF16_indexOfSupplementary : MethodName := ⟨"java/lang/StringUTF16", "indexOfSupplementary", "([BIII)I"⟩
theorem yd_JStringUTF16_indexOfSupplementary : y_JStringUTF16_indexOfSupplementary.cls = "java/lang/StringUTF16" ∧ y_JStringUTF16_indexOfSupplementary.cls ≠ "java/lang/invoke/MethodHandle" ∧ y_JStringUTF16_indexOfSupplementary.cls ≠ "java/lang/invoke/VarHandle" ∧ (parseMethodDescriptor y_JStringUTF16_indexOfSupplementary.desc).map (fun d => d.parameters.length) = some 4 := by decide +kernel
abbrev b_JStringUTF16_length : ByteArray := prog_24_method_6_code
def y_JStringUTF16_length : MethodName := ⟨"java/lang/StringUTF16", "length", "([B)I"⟩
theorem yd_JStringUTF16_length : y_JStringUTF16_length.cls = "java/lang/StringUTF16" ∧ y_JStringUTF16_length.cls ≠ "java/lang/invoke/MethodHandle" ∧ y_JStringUTF16_length.cls ≠ "java/lang/invoke/VarHandle" ∧ (parseMethodDescriptor y_JStringUTF16_length.desc).map (fun d => d.parameters.length) = some 1 := by decide +kernel
abbrev b_JThrowable_init : ByteArray := prog_26_method_2_code
def y_JThrowable_init : MethodName := ⟨"java/lang/Throwable", "<init>", "(Ljava/lang/String;)V"⟩
theorem yd_JThrowable_init : y_JThrowable_init.cls ≠ "java/lang/invoke/MethodHandle" ∧ y_JThrowable_init.cls ≠ "java/lang/invoke/VarHandle" ∧ (parseMethodDescriptor y_JThrowable_init.desc).map (fun d => d.parameters.length) = some 1 := by decide +kernel
abbrev b_JThrowable_fillInStackTrace0 : ByteArray := prog_26_method_18_code
def y_JThrowable_fillInStackTrace0 : MethodName := ⟨"java/lang/Throwable", "fillInStackTrace", "()Ljava/lang/Throwable;"⟩
theorem yd_JThrowable_fillInStackTrace0 : y_JThrowable_fillInStackTrace0.cls = "java/lang/Throwable" ∧ y_JThrowable_fillInStackTrace0.cls ≠ "java/lang/invoke/MethodHandle" ∧ y_JThrowable_fillInStackTrace0.cls ≠ "java/lang/invoke/VarHandle" ∧ (parseMethodDescriptor y_JThrowable_fillInStackTrace0.desc).map (fun d => d.parameters.length) = some 0 := by decide +kernel
abbrev b_JArrays_fill : ByteArray := prog_27_method_103_code
def y_JArrays_fill : MethodName := ⟨"java/util/Arrays", "fill", "([II)V"⟩
theorem yd_JArrays_fill : y_JArrays_fill.cls = "java/util/Arrays" ∧ y_JArrays_fill.cls ≠ "java/lang/invoke/MethodHandle" ∧ y_JArrays_fill.cls ≠ "java/lang/invoke/VarHandle" ∧ (parseMethodDescriptor y_JArrays_fill.desc).map (fun d => d.parameters.length) = some 2 := by decide +kernel
