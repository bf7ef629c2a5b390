/-! 01: names, fields, methods (written by wip/gen/main.py) -/
def T_B : u_T := fun k => match k with
  | 0 => ("AdviceWeaver$Body", "code", "[I", true)
  | 1 => ("AdviceWeaver$Body", "depths", "[I", true)
  | 2 => ("AdviceWeaver$Body", "parts", "[I", true)
  | 3 => ("AdviceWeaver$Body", "mostHandlers", "I", true)
  | 4 => ("AdviceWeaver$Body", "name", "I", false)
  | 5 => ("AdviceWeaver$Body", "args", "I", false)
  | 6 => ("AdviceWeaver$Body", "locals", "I", false)
  | 7 => ("AdviceWeaver$Body", "stack", "I", false)
  | 8 => ("AdviceWeaver$Body", "length", "I", false)
  | 9 => ("AdviceWeaver$Body", "handlers", "I", false)
  | 10 => ("AdviceWeaver$Body", "instructions", "I", false)
  | _ => ("AdviceWeaver$Body", "greatest", "I", false)
def ty_B : Nat → FieldType := fun k => match k with
  | 0 => .array (.int)
  | 1 => .array (.int)
  | 2 => .array (.int)
  | 3 => .int
  | 4 => .int
  | 5 => .int
  | 6 => .int
  | 7 => .int
  | 8 => .int
  | 9 => .int
  | 10 => .int
  | _ => .int
theorem nm_B : ∀ a, a < 12 → ∀ b, b < 12 → a ≠ b → (T_B a).2.1 ≠ (T_B b).2.1 := by decide +kernel
theorem ty_B_ok : ∀ k, k < 12 → parseFieldDescriptor (T_B k).2.2.1 = some (ty_B k) := by decide +kernel
def T_CF : u_T := fun k => match k with
  | 0 => ("AdviceWeaver$ClassFile", "bytes", "[I", true)
  | 1 => ("AdviceWeaver$ClassFile", "size", "I", false)
  | 2 => ("AdviceWeaver$ClassFile", "at", "I", false)
  | _ => ("AdviceWeaver$ClassFile", "wrong", "Z", false)
def ty_CF : Nat → FieldType := fun k => match k with
  | 0 => .array (.int)
  | 1 => .int
  | 2 => .int
  | _ => .boolean
theorem nm_CF : ∀ a, a < 4 → ∀ b, b < 4 → a ≠ b → (T_CF a).2.1 ≠ (T_CF b).2.1 := by decide +kernel
theorem ty_CF_ok : ∀ k, k < 4 → parseFieldDescriptor (T_CF k).2.2.1 = some (ty_CF k) := by decide +kernel
def T_FL : u_T := fun k => match k with
  | 0 => ("AdviceWeaver$Flow", "sets", "[I", true)
  | 1 => ("AdviceWeaver$Flow", "changed", "Z", false)
  | _ => ("AdviceWeaver$Flow", "sound", "Z", false)
def ty_FL : Nat → FieldType := fun k => match k with
  | 0 => .array (.int)
  | 1 => .boolean
  | _ => .boolean
theorem nm_FL : ∀ a, a < 3 → ∀ b, b < 3 → a ≠ b → (T_FL a).2.1 ≠ (T_FL b).2.1 := by decide +kernel
theorem ty_FL_ok : ∀ k, k < 3 → parseFieldDescriptor (T_FL k).2.2.1 = some (ty_FL k) := by decide +kernel
def T_FR : u_T := fun k => match k with
  | 0 => ("AdviceWeaver$Frame", "stack", "[I", true)
  | 1 => ("AdviceWeaver$Frame", "locals", "[I", true)
  | 2 => ("AdviceWeaver$Frame", "height", "I", false)
  | 3 => ("AdviceWeaver$Frame", "method", "I", false)
  | _ => ("AdviceWeaver$Frame", "place", "I", false)
def ty_FR : Nat → FieldType := fun k => match k with
  | 0 => .array (.int)
  | 1 => .array (.int)
  | 2 => .int
  | 3 => .int
  | _ => .int
theorem nm_FR : ∀ a, a < 5 → ∀ b, b < 5 → a ≠ b → (T_FR a).2.1 ≠ (T_FR b).2.1 := by decide +kernel
theorem ty_FR_ok : ∀ k, k < 5 → parseFieldDescriptor (T_FR k).2.2.1 = some (ty_FR k) := by decide +kernel
def T_LM : u_T := fun k => match k with
  | 0 => ("AdviceWeaver$Loom", "old", "LAdviceWeaver$Body;", true)
  | 1 => ("AdviceWeaver$Loom", "ops", "[I", true)
  | 2 => ("AdviceWeaver$Loom", "numbers", "[I", true)
  | 3 => ("AdviceWeaver$Loom", "sources", "[I", true)
  | 4 => ("AdviceWeaver$Loom", "places", "[I", true)
  | 5 => ("AdviceWeaver$Loom", "leads", "[I", true)
  | 6 => ("AdviceWeaver$Loom", "leaders", "[I", true)
  | _ => ("AdviceWeaver$Loom", "items", "I", false)
def ty_LM : Nat → FieldType := fun k => match k with
  | 0 => .object "AdviceWeaver$Body"
  | 1 => .array (.int)
  | 2 => .array (.int)
  | 3 => .array (.int)
  | 4 => .array (.int)
  | 5 => .array (.int)
  | 6 => .array (.int)
  | _ => .int
theorem nm_LM : ∀ a, a < 8 → ∀ b, b < 8 → a ≠ b → (T_LM a).2.1 ≠ (T_LM b).2.1 := by decide +kernel
theorem ty_LM_ok : ∀ k, k < 8 → parseFieldDescriptor (T_LM k).2.2.1 = some (ty_LM k) := by decide +kernel
def T_MC : u_T := fun k => match k with
  | 0 => ("AdviceWeaver$Machine", "frames", "[LAdviceWeaver$Frame;", true)
  | 1 => ("AdviceWeaver$Machine", "keptMarks", "[I", true)
  | 2 => ("AdviceWeaver$Machine", "probes", "[I", true)
  | 3 => ("AdviceWeaver$Machine", "open", "I", false)
  | 4 => ("AdviceWeaver$Machine", "fuel", "I", false)
  | 5 => ("AdviceWeaver$Machine", "outcome", "I", false)
  | 6 => ("AdviceWeaver$Machine", "value", "I", false)
  | 7 => ("AdviceWeaver$Machine", "used", "I", false)
  | _ => ("AdviceWeaver$Machine", "marks", "I", false)
def ty_MC : Nat → FieldType := fun k => match k with
  | 0 => .array (.object "AdviceWeaver$Frame")
  | 1 => .array (.int)
  | 2 => .array (.int)
  | 3 => .int
  | 4 => .int
  | 5 => .int
  | 6 => .int
  | 7 => .int
  | _ => .int
theorem nm_MC : ∀ a, a < 9 → ∀ b, b < 9 → a ≠ b → (T_MC a).2.1 ≠ (T_MC b).2.1 := by decide +kernel
theorem ty_MC_ok : ∀ k, k < 9 → parseFieldDescriptor (T_MC k).2.2.1 = some (ty_MC k) := by decide +kernel
def T_TR : u_T := fun k => match k with
  | 0 => ("AdviceWeaver$Transformer", "cover", "Z", false)
  | 1 => ("AdviceWeaver$Transformer", "letter", "I", false)
  | _ => ("AdviceWeaver$Transformer", "args", "I", false)
def ty_TR : Nat → FieldType := fun k => match k with
  | 0 => .boolean
  | 1 => .int
  | _ => .int
theorem nm_TR : ∀ a, a < 3 → ∀ b, b < 3 → a ≠ b → (T_TR a).2.1 ≠ (T_TR b).2.1 := by decide +kernel
theorem ty_TR_ok : ∀ k, k < 3 → parseFieldDescriptor (T_TR k).2.2.1 = some (ty_TR k) := by decide +kernel
def T_AW : u_T := fun k => match k with
  | 0 => ("AdviceWeaver", "file", "LAdviceWeaver$ClassFile;", true)
  | 1 => ("AdviceWeaver", "freshBodies", "[LAdviceWeaver$Body;", true)
  | 2 => ("AdviceWeaver", "loadedBodies", "[LAdviceWeaver$Body;", true)
  | 3 => ("AdviceWeaver", "wovenBodies", "[LAdviceWeaver$Body;", true)
  | 4 => ("AdviceWeaver", "chain", "[LAdviceWeaver$Transformer;", true)
  | 5 => ("AdviceWeaver", "failures", "[Z", true)
  | 6 => ("AdviceWeaver", "flow", "LAdviceWeaver$Flow;", true)
  | 7 => ("AdviceWeaver", "loom", "LAdviceWeaver$Loom;", true)
  | 8 => ("AdviceWeaver", "machine", "LAdviceWeaver$Machine;", true)
  | 9 => ("AdviceWeaver", "methods", "I", false)
  | 10 => ("AdviceWeaver", "transformers", "I", false)
  | _ => ("AdviceWeaver", "isWoven", "Z", false)
def ty_AW : Nat → FieldType := fun k => match k with
  | 0 => .object "AdviceWeaver$ClassFile"
  | 1 => .array (.object "AdviceWeaver$Body")
  | 2 => .array (.object "AdviceWeaver$Body")
  | 3 => .array (.object "AdviceWeaver$Body")
  | 4 => .array (.object "AdviceWeaver$Transformer")
  | 5 => .array (.boolean)
  | 6 => .object "AdviceWeaver$Flow"
  | 7 => .object "AdviceWeaver$Loom"
  | 8 => .object "AdviceWeaver$Machine"
  | 9 => .int
  | 10 => .int
  | _ => .boolean
theorem nm_AW : ∀ a, a < 12 → ∀ b, b < 12 → a ≠ b → (T_AW a).2.1 ≠ (T_AW b).2.1 := by decide +kernel
theorem ty_AW_ok : ∀ k, k < 12 → parseFieldDescriptor (T_AW k).2.2.1 = some (ty_AW k) := by decide +kernel
def T_MD : u_T := fun k => match k with
  | 0 => ("AdviceWeaverModel", "bytes", "[I", true)
  | 1 => ("AdviceWeaverModel", "size", "I", false)
  | 2 => ("AdviceWeaverModel", "name", "[I", true)
  | 3 => ("AdviceWeaverModel", "args", "[I", true)
  | 4 => ("AdviceWeaverModel", "locals", "[I", true)
  | 5 => ("AdviceWeaverModel", "room", "[I", true)
  | 6 => ("AdviceWeaverModel", "length", "[I", true)
  | 7 => ("AdviceWeaverModel", "code", "[I", true)
  | 8 => ("AdviceWeaverModel", "handlers", "[I", true)
  | 9 => ("AdviceWeaverModel", "handler", "[I", true)
  | 10 => ("AdviceWeaverModel", "methods", "I", false)
  | 11 => ("AdviceWeaverModel", "read", "I", false)
  | 12 => ("AdviceWeaverModel", "woven", "Z", false)
  | 13 => ("AdviceWeaverModel", "at", "I", false)
  | 14 => ("AdviceWeaverModel", "wrong", "I", false)
  | 15 => ("AdviceWeaverModel", "chain", "I", false)
  | 16 => ("AdviceWeaverModel", "cover", "[Z", true)
  | 17 => ("AdviceWeaverModel", "letter", "[I", true)
  | 18 => ("AdviceWeaverModel", "wanted", "[I", true)
  | 19 => ("AdviceWeaverModel", "fails", "[Z", true)
  | 20 => ("AdviceWeaverModel", "begins", "[Z", true)
  | 21 => ("AdviceWeaverModel", "depths", "[I", true)
  | 22 => ("AdviceWeaverModel", "sets", "[J", true)
  | 23 => ("AdviceWeaverModel", "sound", "Z", false)
  | 24 => ("AdviceWeaverModel", "more", "Z", false)
  | 25 => ("AdviceWeaverModel", "before", "[Z", true)
  | 26 => ("AdviceWeaverModel", "wide", "[Z", true)
  | 27 => ("AdviceWeaverModel", "lead", "[I", true)
  | 28 => ("AdviceWeaverModel", "own", "[I", true)
  | 29 => ("AdviceWeaverModel", "made", "I", false)
  | 30 => ("AdviceWeaverModel", "fresh", "[I", true)
  | 31 => ("AdviceWeaverModel", "under", "I", false)
  | 32 => ("AdviceWeaverModel", "method", "[I", true)
  | 33 => ("AdviceWeaverModel", "place", "[I", true)
  | 34 => ("AdviceWeaverModel", "height", "[I", true)
  | 35 => ("AdviceWeaverModel", "local", "[I", true)
  | 36 => ("AdviceWeaverModel", "stack", "[I", true)
  | 37 => ("AdviceWeaverModel", "outcome", "I", false)
  | 38 => ("AdviceWeaverModel", "value", "I", false)
  | 39 => ("AdviceWeaverModel", "used", "I", false)
  | 40 => ("AdviceWeaverModel", "marks", "I", false)
  | 41 => ("AdviceWeaverModel", "mark", "[I", true)
  | _ => ("AdviceWeaverModel", "probe", "[I", true)
def ty_MD : Nat → FieldType := fun k => match k with
  | 0 => .array (.int)
  | 1 => .int
  | 2 => .array (.int)
  | 3 => .array (.int)
  | 4 => .array (.int)
  | 5 => .array (.int)
  | 6 => .array (.int)
  | 7 => .array (.int)
  | 8 => .array (.int)
  | 9 => .array (.int)
  | 10 => .int
  | 11 => .int
  | 12 => .boolean
  | 13 => .int
  | 14 => .int
  | 15 => .int
  | 16 => .array (.boolean)
  | 17 => .array (.int)
  | 18 => .array (.int)
  | 19 => .array (.boolean)
  | 20 => .array (.boolean)
  | 21 => .array (.int)
  | 22 => .array (.long)
  | 23 => .boolean
  | 24 => .boolean
  | 25 => .array (.boolean)
  | 26 => .array (.boolean)
  | 27 => .array (.int)
  | 28 => .array (.int)
  | 29 => .int
  | 30 => .array (.int)
  | 31 => .int
  | 32 => .array (.int)
  | 33 => .array (.int)
  | 34 => .array (.int)
  | 35 => .array (.int)
  | 36 => .array (.int)
  | 37 => .int
  | 38 => .int
  | 39 => .int
  | 40 => .int
  | 41 => .array (.int)
  | _ => .array (.int)
theorem nm_MD : ∀ a, a < 43 → ∀ b, b < 43 → a ≠ b → (T_MD a).2.1 ≠ (T_MD b).2.1 := by decide +kernel
theorem ty_MD_ok : ∀ k, k < 43 → parseFieldDescriptor (T_MD k).2.2.1 = some (ty_MD k) := by decide +kernel
abbrev vwCl : List vw_C := [("AdviceWeaver$Body", T_B, 12), ("AdviceWeaver$ClassFile", T_CF, 4), ("AdviceWeaver$Flow", T_FL, 3), ("AdviceWeaver$Frame", T_FR, 5), ("AdviceWeaver$Loom", T_LM, 8), ("AdviceWeaver$Machine", T_MC, 9), ("AdviceWeaver$Transformer", T_TR, 3), ("AdviceWeaver", T_AW, 12), ("AdviceWeaverModel", T_MD, 43)]
abbrev b_AW_init : ByteArray := prog_1_method_1_code
def y_AW_init : MethodName := ⟨"AdviceWeaver", "<init>", "()V"⟩
abbrev b_CF_init : ByteArray := prog_3_method_1_code
def y_CF_init : MethodName := ⟨"AdviceWeaver$ClassFile", "<init>", "()V"⟩
abbrev b_B_init : ByteArray := prog_2_method_1_code
def y_B_init : MethodName := ⟨"AdviceWeaver$Body", "<init>", "(II)V"⟩
abbrev b_TR_init : ByteArray := prog_9_method_1_code
def y_TR_init : MethodName := ⟨"AdviceWeaver$Transformer", "<init>", "()V"⟩
abbrev b_FL_init : ByteArray := prog_4_method_1_code
def y_FL_init : MethodName := ⟨"AdviceWeaver$Flow", "<init>", "()V"⟩
abbrev b_LM_init : ByteArray := prog_6_method_1_code
def y_LM_init : MethodName := ⟨"AdviceWeaver$Loom", "<init>", "()V"⟩
abbrev b_MC_init : ByteArray := prog_7_method_1_code
def y_MC_init : MethodName := ⟨"AdviceWeaver$Machine", "<init>", "()V"⟩
abbrev b_FR_init : ByteArray := prog_5_method_1_code
def y_FR_init : MethodName := ⟨"AdviceWeaver$Frame", "<init>", "()V"⟩
abbrev b_AW_put : ByteArray := prog_1_method_2_code
def y_AW_put : MethodName := ⟨"AdviceWeaver", "put", "(II)Z"⟩
abbrev b_CF_append : ByteArray := prog_3_method_2_code
def y_CF_append : MethodName := ⟨"AdviceWeaver$ClassFile", "append", "(II)Z"⟩
abbrev b_AW_clear : ByteArray := prog_1_method_3_code
def y_AW_clear : MethodName := ⟨"AdviceWeaver", "clear", "()V"⟩
abbrev b_CF_empty : ByteArray := prog_3_method_3_code
def y_CF_empty : MethodName := ⟨"AdviceWeaver$ClassFile", "empty", "()V"⟩
abbrev b_AW_load : ByteArray := prog_1_method_4_code
def y_AW_load : MethodName := ⟨"AdviceWeaver", "load", "()I"⟩
abbrev b_CF_readInto : ByteArray := prog_3_method_4_code
def y_CF_readInto : MethodName := ⟨"AdviceWeaver$ClassFile", "readInto", "([LAdviceWeaver$Body;)I"⟩
abbrev b_CF_take : ByteArray := prog_3_method_5_code
def y_CF_take : MethodName := ⟨"AdviceWeaver$ClassFile", "take", "(II)I"⟩
abbrev b_CF_readMethod : ByteArray := prog_3_method_6_code
def y_CF_readMethod : MethodName := ⟨"AdviceWeaver$ClassFile", "readMethod", "([LAdviceWeaver$Body;I)V"⟩
abbrev b_CF_readHandlers : ByteArray := prog_3_method_7_code
def y_CF_readHandlers : MethodName := ⟨"AdviceWeaver$ClassFile", "readHandlers", "(LAdviceWeaver$Body;)V"⟩
abbrev b_B_addHandler : ByteArray := prog_2_method_5_code
def y_B_addHandler : MethodName := ⟨"AdviceWeaver$Body", "addHandler", "(IIII)V"⟩
abbrev b_B_isWellFormed : ByteArray := prog_2_method_12_code
def y_B_isWellFormed : MethodName := ⟨"AdviceWeaver$Body", "isWellFormed", "(I)Z"⟩
abbrev b_B_findInstructions : ByteArray := prog_2_method_11_code
def y_B_findInstructions : MethodName := ⟨"AdviceWeaver$Body", "findInstructions", "()Z"⟩
abbrev b_OP_size : ByteArray := prog_8_method_2_code
def y_OP_size : MethodName := ⟨"AdviceWeaver$Op", "size", "(I)I"⟩
abbrev b_B_begins : ByteArray := prog_2_method_9_code
def y_B_begins : MethodName := ⟨"AdviceWeaver$Body", "begins", "(I)Z"⟩
abbrev b_B_numbersHold : ByteArray := prog_2_method_13_code
def y_B_numbersHold : MethodName := ⟨"AdviceWeaver$Body", "numbersHold", "(II)Z"⟩
abbrev b_B_byteAt : ByteArray := prog_2_method_3_code
def y_B_byteAt : MethodName := ⟨"AdviceWeaver$Body", "byteAt", "(I)I"⟩
abbrev b_OP_isBranch : ByteArray := prog_8_method_7_code
def y_OP_isBranch : MethodName := ⟨"AdviceWeaver$Op", "isBranch", "(I)Z"⟩
abbrev b_OP_isShortBranch : ByteArray := prog_8_method_5_code
def y_OP_isShortBranch : MethodName := ⟨"AdviceWeaver$Op", "isShortBranch", "(I)Z"⟩
abbrev b_OP_isWideBranch : ByteArray := prog_8_method_6_code
def y_OP_isWideBranch : MethodName := ⟨"AdviceWeaver$Op", "isWideBranch", "(I)Z"⟩
abbrev b_B_wayAt : ByteArray := prog_2_method_8_code
def y_B_wayAt : MethodName := ⟨"AdviceWeaver$Body", "wayAt", "(I)I"⟩
abbrev b_OP_signedByte : ByteArray := prog_8_method_11_code
def y_OP_signedByte : MethodName := ⟨"AdviceWeaver$Op", "signedByte", "(I)I"⟩
abbrev b_OP_isShortWay : ByteArray := prog_8_method_10_code
def y_OP_isShortWay : MethodName := ⟨"AdviceWeaver$Op", "isShortWay", "(I)Z"⟩
abbrev b_OP_isWovenOnly : ByteArray := prog_8_method_9_code
def y_OP_isWovenOnly : MethodName := ⟨"AdviceWeaver$Op", "isWovenOnly", "(I)Z"⟩
abbrev b_B_part : ByteArray := prog_2_method_4_code
def y_B_part : MethodName := ⟨"AdviceWeaver$Body", "part", "(II)I"⟩
abbrev b_FL_explore : ByteArray := prog_4_method_2_code
def y_FL_explore : MethodName := ⟨"AdviceWeaver$Flow", "explore", "(LAdviceWeaver$Body;[LAdviceWeaver$Body;)Z"⟩
abbrev b_FL_arrive : ByteArray := prog_4_method_4_code
def y_FL_arrive : MethodName := ⟨"AdviceWeaver$Flow", "arrive", "(LAdviceWeaver$Body;III)V"⟩
abbrev b_B_isReached : ByteArray := prog_2_method_10_code
def y_B_isReached : MethodName := ⟨"AdviceWeaver$Body", "isReached", "(I)Z"⟩
abbrev b_FL_leave : ByteArray := prog_4_method_3_code
def y_FL_leave : MethodName := ⟨"AdviceWeaver$Flow", "leave", "(LAdviceWeaver$Body;I[LAdviceWeaver$Body;)V"⟩
abbrev b_OP_takes : ByteArray := prog_8_method_3_code
def y_OP_takes : MethodName := ⟨"AdviceWeaver$Op", "takes", "(I)I"⟩
abbrev b_OP_puts : ByteArray := prog_8_method_4_code
def y_OP_puts : MethodName := ⟨"AdviceWeaver$Op", "puts", "(I)I"⟩
abbrev b_OP_goesOn : ByteArray := prog_8_method_8_code
def y_OP_goesOn : MethodName := ⟨"AdviceWeaver$Op", "goesOn", "(I)Z"⟩
abbrev b_B_covers : ByteArray := prog_2_method_6_code
def y_B_covers : MethodName := ⟨"AdviceWeaver$Body", "covers", "(II)Z"⟩
abbrev b_B_become : ByteArray := prog_2_method_2_code
def y_B_become : MethodName := ⟨"AdviceWeaver$Body", "become", "(LAdviceWeaver$Body;)V"⟩
abbrev b_AW_forgetFailures : ByteArray := prog_1_method_20_code
def y_AW_forgetFailures : MethodName := ⟨"AdviceWeaver", "forgetFailures", "()V"⟩
abbrev b_AW_transformer : ByteArray := prog_1_method_5_code
def y_AW_transformer : MethodName := ⟨"AdviceWeaver", "transformer", "(ZII)I"⟩
abbrev b_TR_set : ByteArray := prog_9_method_2_code
def y_TR_set : MethodName := ⟨"AdviceWeaver$Transformer", "set", "(ZII)V"⟩
abbrev b_AW_unchain : ByteArray := prog_1_method_6_code
def y_AW_unchain : MethodName := ⟨"AdviceWeaver", "unchain", "()V"⟩
abbrev b_AW_weave : ByteArray := prog_1_method_7_code
def y_AW_weave : MethodName := ⟨"AdviceWeaver", "weave", "()I"⟩
abbrev b_AW_sendAlongChain : ByteArray := prog_1_method_21_code
def y_AW_sendAlongChain : MethodName := ⟨"AdviceWeaver", "sendAlongChain", "(I)I"⟩
abbrev b_TR_fits : ByteArray := prog_9_method_3_code
def y_TR_fits : MethodName := ⟨"AdviceWeaver$Transformer", "fits", "(LAdviceWeaver$Body;)Z"⟩
abbrev b_LM_transform : ByteArray := prog_6_method_2_code
def y_LM_transform : MethodName := ⟨"AdviceWeaver$Loom", "transform", "(LAdviceWeaver$Body;ZI)Z"⟩
abbrev b_LM_planCover : ByteArray := prog_6_method_4_code
def y_LM_planCover : MethodName := ⟨"AdviceWeaver$Loom", "planCover", "()V"⟩
abbrev b_LM_findLeaders : ByteArray := prog_6_method_5_code
def y_LM_findLeaders : MethodName := ⟨"AdviceWeaver$Loom", "findLeaders", "()V"⟩
abbrev b_AR_fill : ByteArray := prog_14_method_103_code
def y_AR_fill : MethodName := ⟨"java/util/Arrays", "fill", "([II)V"⟩
abbrev b_LM_addLeader : ByteArray := prog_6_method_6_code
def y_LM_addLeader : MethodName := ⟨"AdviceWeaver$Loom", "addLeader", "(I)V"⟩
abbrev b_LM_addItem : ByteArray := prog_6_method_8_code
def y_LM_addItem : MethodName := ⟨"AdviceWeaver$Loom", "addItem", "(III)V"⟩
abbrev b_LM_addOldItem : ByteArray := prog_6_method_7_code
def y_LM_addOldItem : MethodName := ⟨"AdviceWeaver$Loom", "addOldItem", "(I)V"⟩
abbrev b_LM_planTrace : ByteArray := prog_6_method_3_code
def y_LM_planTrace : MethodName := ⟨"AdviceWeaver$Loom", "planTrace", "(I)V"⟩
abbrev b_LM_layOut : ByteArray := prog_6_method_9_code
def y_LM_layOut : MethodName := ⟨"AdviceWeaver$Loom", "layOut", "()V"⟩
abbrev b_LM_countPlaces : ByteArray := prog_6_method_10_code
def y_LM_countPlaces : MethodName := ⟨"AdviceWeaver$Loom", "countPlaces", "()V"⟩
abbrev b_LM_widenWhereNeeded : ByteArray := prog_6_method_11_code
def y_LM_widenWhereNeeded : MethodName := ⟨"AdviceWeaver$Loom", "widenWhereNeeded", "()Z"⟩
abbrev b_LM_newWay : ByteArray := prog_6_method_12_code
def y_LM_newWay : MethodName := ⟨"AdviceWeaver$Loom", "newWay", "(I)I"⟩
abbrev b_LM_newPlace : ByteArray := prog_6_method_13_code
def y_LM_newPlace : MethodName := ⟨"AdviceWeaver$Loom", "newPlace", "(I)I"⟩
abbrev b_LM_writeCode : ByteArray := prog_6_method_14_code
def y_LM_writeCode : MethodName := ⟨"AdviceWeaver$Loom", "writeCode", "(LAdviceWeaver$Body;)V"⟩
abbrev b_LM_writeWay : ByteArray := prog_6_method_15_code
def y_LM_writeWay : MethodName := ⟨"AdviceWeaver$Loom", "writeWay", "(LAdviceWeaver$Body;I)V"⟩
abbrev b_LM_writeNumber : ByteArray := prog_6_method_17_code
def y_LM_writeNumber : MethodName := ⟨"AdviceWeaver$Loom", "writeNumber", "(LAdviceWeaver$Body;I)V"⟩
abbrev b_LM_copyNumbers : ByteArray := prog_6_method_16_code
def y_LM_copyNumbers : MethodName := ⟨"AdviceWeaver$Loom", "copyNumbers", "(LAdviceWeaver$Body;I)V"⟩
abbrev b_LM_writeHandlers : ByteArray := prog_6_method_18_code
def y_LM_writeHandlers : MethodName := ⟨"AdviceWeaver$Loom", "writeHandlers", "(LAdviceWeaver$Body;)V"⟩
abbrev b_AW_failed : ByteArray := prog_1_method_8_code
def y_AW_failed : MethodName := ⟨"AdviceWeaver", "failed", "(II)Z"⟩
abbrev b_AW_run : ByteArray := prog_1_method_9_code
def y_AW_run : MethodName := ⟨"AdviceWeaver", "run", "(ZIIII)I"⟩
abbrev b_AW_bodyOf : ByteArray := prog_1_method_19_code
def y_AW_bodyOf : MethodName := ⟨"AdviceWeaver", "bodyOf", "(ZI)LAdviceWeaver$Body;"⟩
abbrev b_MC_execute : ByteArray := prog_7_method_2_code
def y_MC_execute : MethodName := ⟨"AdviceWeaver$Machine", "execute", "([LAdviceWeaver$Body;IIII)I"⟩
abbrev b_FR_begin : ByteArray := prog_5_method_2_code
def y_FR_begin : MethodName := ⟨"AdviceWeaver$Frame", "begin", "(IIII)V"⟩
abbrev b_MC_advance : ByteArray := prog_7_method_6_code
def y_MC_advance : MethodName := ⟨"AdviceWeaver$Machine", "advance", "([LAdviceWeaver$Body;)V"⟩
abbrev b_MC_end : ByteArray := prog_7_method_5_code
def y_MC_end : MethodName := ⟨"AdviceWeaver$Machine", "end", "(II)V"⟩
abbrev b_MC_enter : ByteArray := prog_7_method_7_code
def y_MC_enter : MethodName := ⟨"AdviceWeaver$Machine", "enter", "(LAdviceWeaver$Frame;I[LAdviceWeaver$Body;)V"⟩
abbrev b_FR_pop : ByteArray := prog_5_method_5_code
def y_FR_pop : MethodName := ⟨"AdviceWeaver$Frame", "pop", "()I"⟩
abbrev b_MC_giveBack : ByteArray := prog_7_method_8_code
def y_MC_giveBack : MethodName := ⟨"AdviceWeaver$Machine", "giveBack", "(I)V"⟩
abbrev b_FR_push : ByteArray := prog_5_method_4_code
def y_FR_push : MethodName := ⟨"AdviceWeaver$Frame", "push", "(I)V"⟩
abbrev b_MC_raise : ByteArray := prog_7_method_9_code
def y_MC_raise : MethodName := ⟨"AdviceWeaver$Machine", "raise", "(I[LAdviceWeaver$Body;)V"⟩
abbrev b_B_catcherOf : ByteArray := prog_2_method_7_code
def y_B_catcherOf : MethodName := ⟨"AdviceWeaver$Body", "catcherOf", "(II)I"⟩
abbrev b_FR_goOnWith : ByteArray := prog_5_method_3_code
def y_FR_goOnWith : MethodName := ⟨"AdviceWeaver$Frame", "goOnWith", "(II)V"⟩
abbrev b_MC_divide : ByteArray := prog_7_method_10_code
def y_MC_divide : MethodName := ⟨"AdviceWeaver$Machine", "divide", "(LAdviceWeaver$Frame;[LAdviceWeaver$Body;)V"⟩
abbrev b_MC_wayOn : ByteArray := prog_7_method_11_code
def y_MC_wayOn : MethodName := ⟨"AdviceWeaver$Machine", "wayOn", "(LAdviceWeaver$Frame;LAdviceWeaver$Body;I)I"⟩
abbrev b_MC_calculate : ByteArray := prog_7_method_12_code
def y_MC_calculate : MethodName := ⟨"AdviceWeaver$Machine", "calculate", "(LAdviceWeaver$Frame;I)V"⟩
abbrev b_MC_noteMark : ByteArray := prog_7_method_14_code
def y_MC_noteMark : MethodName := ⟨"AdviceWeaver$Machine", "noteMark", "(II)V"⟩
abbrev b_MC_noteProbe : ByteArray := prog_7_method_15_code
def y_MC_noteProbe : MethodName := ⟨"AdviceWeaver$Machine", "noteProbe", "(II)V"⟩
abbrev b_MC_move : ByteArray := prog_7_method_13_code
def y_MC_move : MethodName := ⟨"AdviceWeaver$Machine", "move", "(LAdviceWeaver$Frame;LAdviceWeaver$Body;I)V"⟩
abbrev b_FR_getLocal : ByteArray := prog_5_method_7_code
def y_FR_getLocal : MethodName := ⟨"AdviceWeaver$Frame", "getLocal", "(I)I"⟩
abbrev b_FR_setLocal : ByteArray := prog_5_method_8_code
def y_FR_setLocal : MethodName := ⟨"AdviceWeaver$Frame", "setLocal", "(II)V"⟩
abbrev b_FR_doubleTop : ByteArray := prog_5_method_6_code
def y_FR_doubleTop : MethodName := ⟨"AdviceWeaver$Frame", "doubleTop", "()V"⟩
abbrev b_AW_value : ByteArray := prog_1_method_10_code
def y_AW_value : MethodName := ⟨"AdviceWeaver", "value", "()I"⟩
abbrev b_AW_used : ByteArray := prog_1_method_11_code
def y_AW_used : MethodName := ⟨"AdviceWeaver", "used", "()I"⟩
abbrev b_AW_marks : ByteArray := prog_1_method_12_code
def y_AW_marks : MethodName := ⟨"AdviceWeaver", "marks", "()I"⟩
abbrev b_AW_mark : ByteArray := prog_1_method_13_code
def y_AW_mark : MethodName := ⟨"AdviceWeaver", "mark", "(I)I"⟩
abbrev b_MC_markAt : ByteArray := prog_7_method_3_code
def y_MC_markAt : MethodName := ⟨"AdviceWeaver$Machine", "markAt", "(I)I"⟩
abbrev b_AW_probe : ByteArray := prog_1_method_14_code
def y_AW_probe : MethodName := ⟨"AdviceWeaver", "probe", "(II)I"⟩
abbrev b_MC_probesAt : ByteArray := prog_7_method_4_code
def y_MC_probesAt : MethodName := ⟨"AdviceWeaver$Machine", "probesAt", "(II)I"⟩
abbrev b_AW_shape : ByteArray := prog_1_method_15_code
def y_AW_shape : MethodName := ⟨"AdviceWeaver", "shape", "(ZII)I"⟩
abbrev b_AW_code : ByteArray := prog_1_method_16_code
def y_AW_code : MethodName := ⟨"AdviceWeaver", "code", "(ZII)I"⟩
abbrev b_AW_handler : ByteArray := prog_1_method_17_code
def y_AW_handler : MethodName := ⟨"AdviceWeaver", "handler", "(ZIII)I"⟩
abbrev b_AW_depth : ByteArray := prog_1_method_18_code
def y_AW_depth : MethodName := ⟨"AdviceWeaver", "depth", "(ZII)I"⟩
abbrev b_MD_init : ByteArray := prog_11_method_1_code
def y_MD_init : MethodName := ⟨"AdviceWeaverModel", "<init>", "()V"⟩
abbrev b_MD_put : ByteArray := prog_11_method_3_code
def y_MD_put : MethodName := ⟨"AdviceWeaverModel", "put", "(II)Z"⟩
abbrev b_MD_outside : ByteArray := prog_11_method_2_code
def y_MD_outside : MethodName := ⟨"AdviceWeaverModel", "outside", "(III)Z"⟩
abbrev b_MD_clear : ByteArray := prog_11_method_4_code
def y_MD_clear : MethodName := ⟨"AdviceWeaverModel", "clear", "()V"⟩
abbrev b_MD_load : ByteArray := prog_11_method_23_code
def y_MD_load : MethodName := ⟨"AdviceWeaverModel", "load", "()I"⟩
abbrev b_MD_next : ByteArray := prog_11_method_20_code
def y_MD_next : MethodName := ⟨"AdviceWeaverModel", "next", "(II)I"⟩
abbrev b_MD_readMethod : ByteArray := prog_11_method_21_code
def y_MD_readMethod : MethodName := ⟨"AdviceWeaverModel", "readMethod", "(I)V"⟩
abbrev b_MD_formed : ByteArray := prog_11_method_13_code
def y_MD_formed : MethodName := ⟨"AdviceWeaverModel", "formed", "(I)Z"⟩
abbrev b_MD_divide : ByteArray := prog_11_method_11_code
def y_MD_divide : MethodName := ⟨"AdviceWeaverModel", "divide", "(I)Z"⟩
abbrev b_MD_op : ByteArray := prog_11_method_8_code
def y_MD_op : MethodName := ⟨"AdviceWeaverModel", "op", "(II)I"⟩
abbrev b_MD_sizeOf : ByteArray := prog_11_method_5_code
def y_MD_sizeOf : MethodName := ⟨"AdviceWeaverModel", "sizeOf", "(I)I"⟩
abbrev b_MD_branches : ByteArray := prog_11_method_6_code
def y_MD_branches : MethodName := ⟨"AdviceWeaverModel", "branches", "(I)Z"⟩
abbrev b_MD_target : ByteArray := prog_11_method_10_code
def y_MD_target : MethodName := ⟨"AdviceWeaverModel", "target", "(II)I"⟩
abbrev b_MD_signed : ByteArray := prog_11_method_9_code
def y_MD_signed : MethodName := ⟨"AdviceWeaverModel", "signed", "(II)I"⟩
abbrev b_MD_isPlace : ByteArray := prog_11_method_12_code
def y_MD_isPlace : MethodName := ⟨"AdviceWeaverModel", "isPlace", "(II)Z"⟩
abbrev b_MD_explore : ByteArray := prog_11_method_19_code
def y_MD_explore : MethodName := ⟨"AdviceWeaverModel", "explore", "(I)Z"⟩
abbrev b_MD_reach : ByteArray := prog_11_method_14_code
def y_MD_reach : MethodName := ⟨"AdviceWeaverModel", "reach", "(IIIJ)V"⟩
abbrev b_MD_follow : ByteArray := prog_11_method_18_code
def y_MD_follow : MethodName := ⟨"AdviceWeaverModel", "follow", "(II)V"⟩
abbrev b_MD_takes : ByteArray := prog_11_method_15_code
def y_MD_takes : MethodName := ⟨"AdviceWeaverModel", "takes", "(II)I"⟩
abbrev b_MD_with : ByteArray := prog_11_method_17_code
def y_MD_with : MethodName := ⟨"AdviceWeaverModel", "with", "(JIZ)J"⟩
abbrev b_MD_puts : ByteArray := prog_11_method_16_code
def y_MD_puts : MethodName := ⟨"AdviceWeaverModel", "puts", "(I)I"⟩
abbrev b_MD_ends : ByteArray := prog_11_method_7_code
def y_MD_ends : MethodName := ⟨"AdviceWeaverModel", "ends", "(I)Z"⟩
abbrev b_MD_copy : ByteArray := prog_11_method_22_code
def y_MD_copy : MethodName := ⟨"AdviceWeaverModel", "copy", "(II)V"⟩
abbrev b_MD_transformer : ByteArray := prog_11_method_24_code
def y_MD_transformer : MethodName := ⟨"AdviceWeaverModel", "transformer", "(ZII)I"⟩
abbrev b_MD_unchain : ByteArray := prog_11_method_25_code
def y_MD_unchain : MethodName := ⟨"AdviceWeaverModel", "unchain", "()V"⟩
abbrev b_MD_weave : ByteArray := prog_11_method_31_code
def y_MD_weave : MethodName := ⟨"AdviceWeaverModel", "weave", "()I"⟩
abbrev b_MD_transform : ByteArray := prog_11_method_30_code
def y_MD_transform : MethodName := ⟨"AdviceWeaverModel", "transform", "(II)Z"⟩
abbrev b_MD_choose : ByteArray := prog_11_method_26_code
def y_MD_choose : MethodName := ⟨"AdviceWeaverModel", "choose", "(IZ)V"⟩
abbrev b_MD_lay : ByteArray := prog_11_method_27_code
def y_MD_lay : MethodName := ⟨"AdviceWeaverModel", "lay", "(II)Z"⟩
abbrev b_MD_emit : ByteArray := prog_11_method_28_code
def y_MD_emit : MethodName := ⟨"AdviceWeaverModel", "emit", "(I)V"⟩
abbrev b_MD_emitOne : ByteArray := prog_11_method_29_code
def y_MD_emitOne : MethodName := ⟨"AdviceWeaverModel", "emitOne", "(II)V"⟩
abbrev b_MD_failed : ByteArray := prog_11_method_32_code
def y_MD_failed : MethodName := ⟨"AdviceWeaverModel", "failed", "(II)Z"⟩
abbrev b_MD_run : ByteArray := prog_11_method_43_code
def y_MD_run : MethodName := ⟨"AdviceWeaverModel", "run", "(ZIIII)I"⟩
abbrev b_MD_enter : ByteArray := prog_11_method_33_code
def y_MD_enter : MethodName := ⟨"AdviceWeaverModel", "enter", "(I)V"⟩
abbrev b_MD_one : ByteArray := prog_11_method_42_code
def y_MD_one : MethodName := ⟨"AdviceWeaverModel", "one", "(I)V"⟩
abbrev b_MD_branch : ByteArray := prog_11_method_40_code
def y_MD_branch : MethodName := ⟨"AdviceWeaverModel", "branch", "(III)V"⟩
abbrev b_MD_pop : ByteArray := prog_11_method_35_code
def y_MD_pop : MethodName := ⟨"AdviceWeaverModel", "pop", "()I"⟩
abbrev b_MD_calculate : ByteArray := prog_11_method_38_code
def y_MD_calculate : MethodName := ⟨"AdviceWeaverModel", "calculate", "(I)V"⟩
abbrev b_MD_raise : ByteArray := prog_11_method_36_code
def y_MD_raise : MethodName := ⟨"AdviceWeaverModel", "raise", "(I)V"⟩
abbrev b_MD_push : ByteArray := prog_11_method_34_code
def y_MD_push : MethodName := ⟨"AdviceWeaverModel", "push", "(I)V"⟩
abbrev b_MD_call : ByteArray := prog_11_method_39_code
def y_MD_call : MethodName := ⟨"AdviceWeaverModel", "call", "(I)V"⟩
abbrev b_MD_giveBack : ByteArray := prog_11_method_37_code
def y_MD_giveBack : MethodName := ⟨"AdviceWeaverModel", "giveBack", "(I)V"⟩
abbrev b_MD_plain : ByteArray := prog_11_method_41_code
def y_MD_plain : MethodName := ⟨"AdviceWeaverModel", "plain", "(III)V"⟩
abbrev b_MD_value : ByteArray := prog_11_method_44_code
def y_MD_value : MethodName := ⟨"AdviceWeaverModel", "value", "()I"⟩
abbrev b_MD_used : ByteArray := prog_11_method_45_code
def y_MD_used : MethodName := ⟨"AdviceWeaverModel", "used", "()I"⟩
abbrev b_MD_marks : ByteArray := prog_11_method_46_code
def y_MD_marks : MethodName := ⟨"AdviceWeaverModel", "marks", "()I"⟩
abbrev b_MD_mark : ByteArray := prog_11_method_47_code
def y_MD_mark : MethodName := ⟨"AdviceWeaverModel", "mark", "(I)I"⟩
abbrev b_MD_probe : ByteArray := prog_11_method_48_code
def y_MD_probe : MethodName := ⟨"AdviceWeaverModel", "probe", "(II)I"⟩
abbrev b_MD_shape : ByteArray := prog_11_method_50_code
def y_MD_shape : MethodName := ⟨"AdviceWeaverModel", "shape", "(ZII)I"⟩
abbrev b_MD_slot : ByteArray := prog_11_method_49_code
def y_MD_slot : MethodName := ⟨"AdviceWeaverModel", "slot", "(ZI)I"⟩
abbrev b_MD_code : ByteArray := prog_11_method_51_code
def y_MD_code : MethodName := ⟨"AdviceWeaverModel", "code", "(ZII)I"⟩
abbrev b_MD_handler : ByteArray := prog_11_method_52_code
def y_MD_handler : MethodName := ⟨"AdviceWeaverModel", "handler", "(ZIII)I"⟩
abbrev b_MD_depth : ByteArray := prog_11_method_53_code
def y_MD_depth : MethodName := ⟨"AdviceWeaverModel", "depth", "(ZII)I"⟩
def wA_0 : List Cond := [.fieldLink "AdviceWeaver$ClassFile" 15 "AdviceWeaver$ClassFile" "size" "I", .fieldLink "AdviceWeaver$ClassFile" 9 "AdviceWeaver$ClassFile" "bytes" "[I", .fieldLink "AdviceWeaver" 10 "AdviceWeaver" "file" "LAdviceWeaver$ClassFile;", .methodLink "AdviceWeaver" 74 y_CF_append, .instanceMethod y_CF_append, .selects "AdviceWeaver$ClassFile" y_CF_append y_CF_append, .initialized "AdviceWeaver$ClassFile", .code y_CF_append b_CF_append 4 (some .boolean), .methodLink "AdviceWeaver" 78 y_CF_empty, .instanceMethod y_CF_empty, .selects "AdviceWeaver$ClassFile" y_CF_empty y_CF_empty, .code y_CF_empty b_CF_empty 1 none, .fieldLink "AdviceWeaver$ClassFile" 22 "AdviceWeaver$ClassFile" "wrong" "Z", .fieldLink "AdviceWeaver$ClassFile" 19 "AdviceWeaver$ClassFile" "at" "I", .fieldLink "AdviceWeaver$Body" 40 "AdviceWeaver$Body" "handlers" "I", .fieldLink "AdviceWeaver$Body" 21 "AdviceWeaver$Body" "mostHandlers" "I", .fieldLink "AdviceWeaver$Body" 18 "AdviceWeaver$Body" "parts" "[I", .methodLink "AdviceWeaver$ClassFile" 26 y_CF_take, .instanceMethod y_CF_take, .selects "AdviceWeaver$ClassFile" y_CF_take y_CF_take, .code y_CF_take b_CF_take 3 (some .int), .fieldLink "AdviceWeaver$ClassFile" 58 "AdviceWeaver$Body" "handlers" "I", .methodLink "AdviceWeaver$ClassFile" 61 y_B_addHandler, .instanceMethod y_B_addHandler, .selects "AdviceWeaver$Body" y_B_addHandler y_B_addHandler, .initialized "AdviceWeaver$Body", .code y_B_addHandler b_B_addHandler 6 none, .fieldLink "AdviceWeaver$ClassFile" 34 "AdviceWeaver$Body" "name" "I", .fieldLink "AdviceWeaver$ClassFile" 39 "AdviceWeaver$Body" "args" "I", .fieldLink "AdviceWeaver$ClassFile" 42 "AdviceWeaver$Body" "locals" "I", .fieldLink "AdviceWeaver$ClassFile" 45 "AdviceWeaver$Body" "stack" "I", .fieldLink "AdviceWeaver$ClassFile" 48 "AdviceWeaver$Body" "length" "I", .fieldLink "AdviceWeaver$ClassFile" 51 "AdviceWeaver$Body" "code" "[I", .methodLink "AdviceWeaver$ClassFile" 54 y_CF_readHandlers, .instanceMethod y_CF_readHandlers, .selects "AdviceWeaver$ClassFile" y_CF_readHandlers y_CF_readHandlers, .code y_CF_readHandlers b_CF_readHandlers 7 none, .methodLink "AdviceWeaver$ClassFile" 30 y_CF_readMethod, .instanceMethod y_CF_readMethod, .selects "AdviceWeaver$ClassFile" y_CF_readMethod y_CF_readMethod, .code y_CF_readMethod b_CF_readMethod 5 none, .fieldLink "AdviceWeaver$Op" 11 "AdviceWeaver$Op" "SIZES" "[I", .fieldLink "AdviceWeaver$Body" 43 "AdviceWeaver$Body" "instructions" "I", .fieldLink "AdviceWeaver$Body" 37 "AdviceWeaver$Body" "length" "I", .fieldLink "AdviceWeaver$Body" 15 "AdviceWeaver$Body" "depths" "[I", .fieldLink "AdviceWeaver$Body" 9 "AdviceWeaver$Body" "code" "[I", .methodLink "AdviceWeaver$Body" 76 y_OP_size, .static y_OP_size, .initialized "AdviceWeaver$Op", .code y_OP_size b_OP_size 1 (some .int)]
def wA_1 : List Cond := [.methodLink "AdviceWeaver$Op" 21 y_OP_isShortBranch, .static y_OP_isShortBranch, .code y_OP_isShortBranch b_OP_isShortBranch 1 (some .boolean), .methodLink "AdviceWeaver$Op" 25 y_OP_isWideBranch, .static y_OP_isWideBranch, .code y_OP_isWideBranch b_OP_isWideBranch 1 (some .boolean), .methodLink "AdviceWeaver$Body" 63 y_B_byteAt, .instanceMethod y_B_byteAt, .selects "AdviceWeaver$Body" y_B_byteAt y_B_byteAt, .code y_B_byteAt b_B_byteAt 2 (some .int), .methodLink "AdviceWeaver$Body" 67 y_OP_signedByte, .static y_OP_signedByte, .code y_OP_signedByte b_OP_signedByte 1 (some .int), .methodLink "AdviceWeaver$Body" 72 y_OP_isWideBranch, .methodLink "AdviceWeaver$Body" 89 y_OP_isBranch, .static y_OP_isBranch, .code y_OP_isBranch b_OP_isBranch 1 (some .boolean), .methodLink "AdviceWeaver$Body" 98 y_OP_isWovenOnly, .static y_OP_isWovenOnly, .code y_OP_isWovenOnly b_OP_isWovenOnly 1 (some .boolean), .fieldLink "AdviceWeaver$Body" 31 "AdviceWeaver$Body" "locals" "I", .methodLink "AdviceWeaver$Body" 92 y_B_wayAt, .instanceMethod y_B_wayAt, .selects "AdviceWeaver$Body" y_B_wayAt y_B_wayAt, .code y_B_wayAt b_B_wayAt 3 (some .int), .methodLink "AdviceWeaver$Body" 83 y_B_begins, .instanceMethod y_B_begins, .selects "AdviceWeaver$Body" y_B_begins y_B_begins, .code y_B_begins b_B_begins 2 (some .boolean), .methodLink "AdviceWeaver$Body" 95 y_OP_isShortWay, .static y_OP_isShortWay, .code y_OP_isShortWay b_OP_isShortWay 1 (some .boolean), .methodLink "AdviceWeaver$Body" 79 y_B_findInstructions, .instanceMethod y_B_findInstructions, .selects "AdviceWeaver$Body" y_B_findInstructions y_B_findInstructions, .code y_B_findInstructions b_B_findInstructions 3 (some .boolean), .methodLink "AdviceWeaver$Body" 86 y_B_numbersHold, .instanceMethod y_B_numbersHold, .selects "AdviceWeaver$Body" y_B_numbersHold y_B_numbersHold, .code y_B_numbersHold b_B_numbersHold 5 (some .boolean), .methodLink "AdviceWeaver$Body" 55 y_B_part, .instanceMethod y_B_part, .selects "AdviceWeaver$Body" y_B_part y_B_part, .code y_B_part b_B_part 3 (some .int), .methodLink "AdviceWeaver$Flow" 96 y_B_begins, .methodLink "AdviceWeaver$Flow" 39 y_B_isReached, .instanceMethod y_B_isReached, .selects "AdviceWeaver$Body" y_B_isReached y_B_isReached, .code y_B_isReached b_B_isReached 2 (some .boolean), .fieldLink "AdviceWeaver$Flow" 50 "AdviceWeaver$Body" "depths" "[I"]
def wA_2 : List Cond := [.fieldLink "AdviceWeaver$Flow" 9 "AdviceWeaver$Flow" "sets" "[I", .fieldLink "AdviceWeaver$Flow" 21 "AdviceWeaver$Flow" "changed" "Z", .fieldLink "AdviceWeaver$Flow" 25 "AdviceWeaver$Flow" "sound" "Z", .fieldLink "AdviceWeaver$Op" 15 "AdviceWeaver$Op" "TAKES" "[I", .fieldLink "AdviceWeaver$Op" 18 "AdviceWeaver$Op" "PUTS" "[I", .methodLink "AdviceWeaver$Flow" 59 y_B_byteAt, .methodLink "AdviceWeaver$Flow" 65 y_OP_takes, .static y_OP_takes, .code y_OP_takes b_OP_takes 1 (some .int), .fieldLink "AdviceWeaver$Flow" 28 "AdviceWeaver$Body" "args" "I", .methodLink "AdviceWeaver$Flow" 68 y_OP_puts, .static y_OP_puts, .code y_OP_puts b_OP_puts 1 (some .int), .fieldLink "AdviceWeaver$Flow" 71 "AdviceWeaver$Body" "stack" "I", .methodLink "AdviceWeaver$Flow" 74 y_OP_goesOn, .static y_OP_goesOn, .code y_OP_goesOn b_OP_goesOn 1 (some .boolean), .methodLink "AdviceWeaver$Flow" 77 y_OP_size, .methodLink "AdviceWeaver$Flow" 32 y_FL_arrive, .instanceMethod y_FL_arrive, .selects "AdviceWeaver$Flow" y_FL_arrive y_FL_arrive, .initialized "AdviceWeaver$Flow", .code y_FL_arrive b_FL_arrive 5 none, .methodLink "AdviceWeaver$Flow" 80 y_OP_isBranch, .methodLink "AdviceWeaver$Flow" 83 y_B_wayAt, .fieldLink "AdviceWeaver$Flow" 86 "AdviceWeaver$Body" "handlers" "I", .methodLink "AdviceWeaver$Flow" 89 y_B_covers, .instanceMethod y_B_covers, .selects "AdviceWeaver$Body" y_B_covers y_B_covers, .code y_B_covers b_B_covers 4 (some .boolean), .methodLink "AdviceWeaver$Flow" 93 y_B_part, .methodLink "AdviceWeaver$Flow" 15 y_B_findInstructions, .fieldLink "AdviceWeaver$Flow" 36 "AdviceWeaver$Body" "length" "I", .methodLink "AdviceWeaver$Flow" 43 y_FL_leave, .instanceMethod y_FL_leave, .selects "AdviceWeaver$Flow" y_FL_leave y_FL_leave, .code y_FL_leave b_FL_leave 13 none, .fieldLink "AdviceWeaver$Flow" 47 "AdviceWeaver$Body" "greatest" "I", .methodLink "AdviceWeaver$Flow" 53 Lib.Math.max.name, .static Lib.Math.max.name, .initialized "java/lang/Math", .code Lib.Math.max.name Lib.Math.max.code 2 (some .int), .fieldLink "AdviceWeaver$Body" 25 "AdviceWeaver$Body" "name" "I", .fieldLink "AdviceWeaver$Body" 28 "AdviceWeaver$Body" "args" "I", .fieldLink "AdviceWeaver$Body" 34 "AdviceWeaver$Body" "stack" "I", .fieldLink "AdviceWeaver$Body" 46 "AdviceWeaver$Body" "greatest" "I", .methodLink "AdviceWeaver$Body" 49 arraycopyName, .native arraycopyName, .static arraycopyName, .initialized "java/lang/System"]
def wA_3 : List Cond := [.fieldLink "AdviceWeaver" 38 "AdviceWeaver" "failures" "[Z", .fieldLink "AdviceWeaver" 18 "AdviceWeaver" "freshBodies" "[LAdviceWeaver$Body;", .methodLink "AdviceWeaver" 81 y_CF_readInto, .instanceMethod y_CF_readInto, .selects "AdviceWeaver$ClassFile" y_CF_readInto y_CF_readInto, .code y_CF_readInto b_CF_readInto 4 (some .int), .methodLink "AdviceWeaver" 85 y_B_isWellFormed, .instanceMethod y_B_isWellFormed, .selects "AdviceWeaver$Body" y_B_isWellFormed y_B_isWellFormed, .code y_B_isWellFormed b_B_isWellFormed 5 (some .boolean), .fieldLink "AdviceWeaver" 45 "AdviceWeaver" "flow" "LAdviceWeaver$Flow;", .methodLink "AdviceWeaver" 89 y_FL_explore, .instanceMethod y_FL_explore, .selects "AdviceWeaver$Flow" y_FL_explore y_FL_explore, .code y_FL_explore b_FL_explore 5 (some .boolean), .fieldLink "AdviceWeaver" 22 "AdviceWeaver" "loadedBodies" "[LAdviceWeaver$Body;", .methodLink "AdviceWeaver" 93 y_B_become, .instanceMethod y_B_become, .selects "AdviceWeaver$Body" y_B_become y_B_become, .code y_B_become b_B_become 2 none, .fieldLink "AdviceWeaver" 63 "AdviceWeaver" "methods" "I", .fieldLink "AdviceWeaver" 70 "AdviceWeaver" "isWoven" "Z", .methodLink "AdviceWeaver" 97 y_AW_forgetFailures, .instanceMethod y_AW_forgetFailures, .selects "AdviceWeaver" y_AW_forgetFailures y_AW_forgetFailures, .initialized "AdviceWeaver", .code y_AW_forgetFailures b_AW_forgetFailures 2 none, .fieldLink "AdviceWeaver$Transformer" 7 "AdviceWeaver$Transformer" "cover" "Z", .fieldLink "AdviceWeaver$Transformer" 13 "AdviceWeaver$Transformer" "letter" "I", .fieldLink "AdviceWeaver$Transformer" 17 "AdviceWeaver$Transformer" "args" "I", .fieldLink "AdviceWeaver" 67 "AdviceWeaver" "transformers" "I", .fieldLink "AdviceWeaver" 33 "AdviceWeaver" "chain" "[LAdviceWeaver$Transformer;", .methodLink "AdviceWeaver" 100 y_TR_set, .instanceMethod y_TR_set, .selects "AdviceWeaver$Transformer" y_TR_set y_TR_set, .initialized "AdviceWeaver$Transformer", .code y_TR_set b_TR_set 4 none, .fieldLink "AdviceWeaver$Transformer" 20 "AdviceWeaver$Body" "name" "I", .fieldLink "AdviceWeaver$Transformer" 25 "AdviceWeaver$Body" "args" "I", .fieldLink "AdviceWeaver$Loom" 36 "AdviceWeaver$Loom" "leaders" "[I", .methodLink "AdviceWeaver$Loom" 100 y_AR_fill, .static y_AR_fill, .initialized "java/util/Arrays", .code y_AR_fill b_AR_fill 4 none, .fieldLink "AdviceWeaver$Loom" 14 "AdviceWeaver$Loom" "old" "LAdviceWeaver$Body;", .fieldLink "AdviceWeaver$Loom" 66 "AdviceWeaver$Body" "length" "I", .methodLink "AdviceWeaver$Loom" 87 y_B_begins, .methodLink "AdviceWeaver$Loom" 91 y_B_byteAt, .methodLink "AdviceWeaver$Loom" 106 y_OP_isBranch, .methodLink "AdviceWeaver$Loom" 109 y_B_wayAt]
def wA_4 : List Cond := [.methodLink "AdviceWeaver$Loom" 112 y_LM_addLeader, .instanceMethod y_LM_addLeader, .selects "AdviceWeaver$Loom" y_LM_addLeader y_LM_addLeader, .initialized "AdviceWeaver$Loom", .code y_LM_addLeader b_LM_addLeader 2 none, .methodLink "AdviceWeaver$Loom" 115 y_OP_goesOn, .methodLink "AdviceWeaver$Loom" 118 y_OP_size, .fieldLink "AdviceWeaver$Loom" 57 "AdviceWeaver$Body" "handlers" "I", .methodLink "AdviceWeaver$Loom" 121 y_B_part, .fieldLink "AdviceWeaver$Loom" 43 "AdviceWeaver$Loom" "items" "I", .fieldLink "AdviceWeaver$Loom" 20 "AdviceWeaver$Loom" "ops" "[I", .fieldLink "AdviceWeaver$Loom" 24 "AdviceWeaver$Loom" "numbers" "[I", .fieldLink "AdviceWeaver$Loom" 27 "AdviceWeaver$Loom" "sources" "[I", .methodLink "AdviceWeaver$Loom" 83 y_LM_addItem, .instanceMethod y_LM_addItem, .selects "AdviceWeaver$Loom" y_LM_addItem y_LM_addItem, .code y_LM_addItem b_LM_addItem 4 none, .methodLink "AdviceWeaver$Loom" 97 y_LM_findLeaders, .instanceMethod y_LM_findLeaders, .selects "AdviceWeaver$Loom" y_LM_findLeaders y_LM_findLeaders, .code y_LM_findLeaders b_LM_findLeaders 4 none, .fieldLink "AdviceWeaver$Loom" 33 "AdviceWeaver$Loom" "leads" "[I", .methodLink "AdviceWeaver$Loom" 94 y_LM_addOldItem, .instanceMethod y_LM_addOldItem, .selects "AdviceWeaver$Loom" y_LM_addOldItem y_LM_addOldItem, .code y_LM_addOldItem b_LM_addOldItem 3 none, .fieldLink "AdviceWeaver$Loom" 30 "AdviceWeaver$Loom" "places" "[I", .methodLink "AdviceWeaver$Loom" 69 y_LM_newPlace, .instanceMethod y_LM_newPlace, .selects "AdviceWeaver$Loom" y_LM_newPlace y_LM_newPlace, .code y_LM_newPlace b_LM_newPlace 2 (some .int), .methodLink "AdviceWeaver$Loom" 131 y_OP_isShortBranch, .methodLink "AdviceWeaver$Loom" 134 y_LM_newWay, .instanceMethod y_LM_newWay, .selects "AdviceWeaver$Loom" y_LM_newWay y_LM_newWay, .code y_LM_newWay b_LM_newWay 2 (some .int), .methodLink "AdviceWeaver$Loom" 137 y_OP_isShortWay, .methodLink "AdviceWeaver$Loom" 125 y_LM_countPlaces, .instanceMethod y_LM_countPlaces, .selects "AdviceWeaver$Loom" y_LM_countPlaces y_LM_countPlaces, .code y_LM_countPlaces b_LM_countPlaces 2 none, .methodLink "AdviceWeaver$Loom" 128 y_LM_widenWhereNeeded, .instanceMethod y_LM_widenWhereNeeded, .selects "AdviceWeaver$Loom" y_LM_widenWhereNeeded y_LM_widenWhereNeeded, .code y_LM_widenWhereNeeded b_LM_widenWhereNeeded 3 (some .boolean), .methodLink "AdviceWeaver$Loom" 153 y_OP_isWideBranch, .fieldLink "AdviceWeaver$Loom" 140 "AdviceWeaver$Body" "code" "[I", .methodLink "AdviceWeaver$Loom" 150 y_LM_copyNumbers, .instanceMethod y_LM_copyNumbers, .selects "AdviceWeaver$Loom" y_LM_copyNumbers y_LM_copyNumbers]
def wA_5 : List Cond := [.code y_LM_copyNumbers b_LM_copyNumbers 4 none, .methodLink "AdviceWeaver$Loom" 147 y_LM_writeNumber, .instanceMethod y_LM_writeNumber, .selects "AdviceWeaver$Loom" y_LM_writeNumber y_LM_writeNumber, .code y_LM_writeNumber b_LM_writeNumber 3 none, .methodLink "AdviceWeaver$Loom" 143 y_LM_writeWay, .instanceMethod y_LM_writeWay, .selects "AdviceWeaver$Loom" y_LM_writeWay y_LM_writeWay, .code y_LM_writeWay b_LM_writeWay 5 none, .methodLink "AdviceWeaver$Loom" 73 y_B_addHandler, .methodLink "AdviceWeaver$Loom" 39 y_B_become, .methodLink "AdviceWeaver$Loom" 50 y_LM_planTrace, .instanceMethod y_LM_planTrace, .selects "AdviceWeaver$Loom" y_LM_planTrace y_LM_planTrace, .code y_LM_planTrace b_LM_planTrace 3 none, .methodLink "AdviceWeaver$Loom" 47 y_LM_planCover, .instanceMethod y_LM_planCover, .selects "AdviceWeaver$Loom" y_LM_planCover y_LM_planCover, .code y_LM_planCover b_LM_planCover 3 none, .methodLink "AdviceWeaver$Loom" 54 y_LM_layOut, .instanceMethod y_LM_layOut, .selects "AdviceWeaver$Loom" y_LM_layOut y_LM_layOut, .code y_LM_layOut b_LM_layOut 2 none, .methodLink "AdviceWeaver$Loom" 60 y_LM_writeCode, .instanceMethod y_LM_writeCode, .selects "AdviceWeaver$Loom" y_LM_writeCode y_LM_writeCode, .code y_LM_writeCode b_LM_writeCode 3 none, .methodLink "AdviceWeaver$Loom" 63 y_LM_writeHandlers, .instanceMethod y_LM_writeHandlers, .selects "AdviceWeaver$Loom" y_LM_writeHandlers y_LM_writeHandlers, .code y_LM_writeHandlers b_LM_writeHandlers 5 none, .methodLink "AdviceWeaver$Loom" 77 y_B_findInstructions, .fieldLink "AdviceWeaver" 25 "AdviceWeaver" "wovenBodies" "[LAdviceWeaver$Body;", .methodLink "AdviceWeaver" 157 y_TR_fits, .instanceMethod y_TR_fits, .selects "AdviceWeaver$Transformer" y_TR_fits y_TR_fits, .code y_TR_fits b_TR_fits 2 (some .boolean), .fieldLink "AdviceWeaver" 52 "AdviceWeaver" "loom" "LAdviceWeaver$Loom;", .fieldLink "AdviceWeaver" 161 "AdviceWeaver$Transformer" "cover" "Z", .methodLink "AdviceWeaver" 164 y_LM_transform, .instanceMethod y_LM_transform, .selects "AdviceWeaver$Loom" y_LM_transform y_LM_transform, .code y_LM_transform b_LM_transform 6 (some .boolean), .methodLink "AdviceWeaver" 104 y_AW_sendAlongChain, .instanceMethod y_AW_sendAlongChain, .selects "AdviceWeaver" y_AW_sendAlongChain y_AW_sendAlongChain, .code y_AW_sendAlongChain b_AW_sendAlongChain 4 (some .int), .fieldLink "AdviceWeaver$Frame" 18 "AdviceWeaver$Frame" "method" "I", .fieldLink "AdviceWeaver$Frame" 22 "AdviceWeaver$Frame" "place" "I", .fieldLink "AdviceWeaver$Frame" 25 "AdviceWeaver$Frame" "height" "I"]
def wA_6 : List Cond := [.fieldLink "AdviceWeaver$Frame" 15 "AdviceWeaver$Frame" "locals" "[I", .methodLink "AdviceWeaver$Frame" 28 y_AR_fill, .fieldLink "AdviceWeaver$Machine" 41 "AdviceWeaver$Machine" "outcome" "I", .fieldLink "AdviceWeaver$Machine" 61 "AdviceWeaver$Machine" "value" "I", .fieldLink "AdviceWeaver$Frame" 9 "AdviceWeaver$Frame" "stack" "[I", .fieldLink "AdviceWeaver$Machine" 53 "AdviceWeaver$Machine" "open" "I", .fieldLink "AdviceWeaver$Machine" 44 "AdviceWeaver$Body" "args" "I", .methodLink "AdviceWeaver$Machine" 88 y_FR_pop, .instanceMethod y_FR_pop, .selects "AdviceWeaver$Frame" y_FR_pop y_FR_pop, .initialized "AdviceWeaver$Frame", .code y_FR_pop b_FR_pop 1 (some .int), .fieldLink "AdviceWeaver$Machine" 13 "AdviceWeaver$Machine" "frames" "[LAdviceWeaver$Frame;", .methodLink "AdviceWeaver$Machine" 49 y_FR_begin, .instanceMethod y_FR_begin, .selects "AdviceWeaver$Frame" y_FR_begin y_FR_begin, .code y_FR_begin b_FR_begin 5 none, .methodLink "AdviceWeaver$Machine" 80 y_MC_end, .instanceMethod y_MC_end, .selects "AdviceWeaver$Machine" y_MC_end y_MC_end, .initialized "AdviceWeaver$Machine", .code y_MC_end b_MC_end 3 none, .methodLink "AdviceWeaver$Machine" 108 y_FR_push, .instanceMethod y_FR_push, .selects "AdviceWeaver$Frame" y_FR_push y_FR_push, .code y_FR_push b_FR_push 2 none, .fieldLink "AdviceWeaver$Machine" 67 "AdviceWeaver$Frame" "place" "I", .methodLink "AdviceWeaver$Machine" 111 y_OP_size, .methodLink "AdviceWeaver$Body" 59 y_B_covers, .methodLink "AdviceWeaver$Frame" 34 y_FR_push, .fieldLink "AdviceWeaver$Machine" 64 "AdviceWeaver$Frame" "method" "I", .methodLink "AdviceWeaver$Machine" 114 y_B_catcherOf, .instanceMethod y_B_catcherOf, .selects "AdviceWeaver$Body" y_B_catcherOf y_B_catcherOf, .code y_B_catcherOf b_B_catcherOf 5 (some .int), .methodLink "AdviceWeaver$Machine" 118 y_FR_goOnWith, .instanceMethod y_FR_goOnWith, .selects "AdviceWeaver$Frame" y_FR_goOnWith y_FR_goOnWith, .code y_FR_goOnWith b_FR_goOnWith 3 none, .methodLink "AdviceWeaver$Machine" 96 y_MC_raise, .instanceMethod y_MC_raise, .selects "AdviceWeaver$Machine" y_MC_raise y_MC_raise, .code y_MC_raise b_MC_raise 5 none, .fieldLink "AdviceWeaver$Machine" 32 "AdviceWeaver$Machine" "marks" "I", .fieldLink "AdviceWeaver$Machine" 17 "AdviceWeaver$Machine" "keptMarks" "[I", .fieldLink "AdviceWeaver$Machine" 21 "AdviceWeaver$Machine" "probes" "[I", .methodLink "AdviceWeaver$Frame" 38 y_FR_pop, .methodLink "AdviceWeaver$Machine" 70 y_B_byteAt, .methodLink "AdviceWeaver$Machine" 141 y_FR_getLocal, .instanceMethod y_FR_getLocal]
def wA_7 : List Cond := [.selects "AdviceWeaver$Frame" y_FR_getLocal y_FR_getLocal, .code y_FR_getLocal b_FR_getLocal 2 (some .int), .methodLink "AdviceWeaver$Machine" 138 y_OP_signedByte, .methodLink "AdviceWeaver$Machine" 144 y_FR_setLocal, .instanceMethod y_FR_setLocal, .selects "AdviceWeaver$Frame" y_FR_setLocal y_FR_setLocal, .code y_FR_setLocal b_FR_setLocal 3 none, .methodLink "AdviceWeaver$Machine" 147 y_FR_doubleTop, .instanceMethod y_FR_doubleTop, .selects "AdviceWeaver$Frame" y_FR_doubleTop y_FR_doubleTop, .code y_FR_doubleTop b_FR_doubleTop 2 none, .methodLink "AdviceWeaver$Machine" 131 y_MC_move, .instanceMethod y_MC_move, .selects "AdviceWeaver$Machine" y_MC_move y_MC_move, .code y_MC_move b_MC_move 5 none, .methodLink "AdviceWeaver$Machine" 128 y_MC_noteProbe, .instanceMethod y_MC_noteProbe, .selects "AdviceWeaver$Machine" y_MC_noteProbe y_MC_noteProbe, .code y_MC_noteProbe b_MC_noteProbe 3 none, .methodLink "AdviceWeaver$Machine" 125 y_MC_noteMark, .instanceMethod y_MC_noteMark, .selects "AdviceWeaver$Machine" y_MC_noteMark y_MC_noteMark, .code y_MC_noteMark b_MC_noteMark 3 none, .methodLink "AdviceWeaver$Machine" 121 y_MC_calculate, .instanceMethod y_MC_calculate, .selects "AdviceWeaver$Machine" y_MC_calculate y_MC_calculate, .code y_MC_calculate b_MC_calculate 5 none, .methodLink "AdviceWeaver$Machine" 135 y_B_wayAt, .methodLink "AdviceWeaver$Machine" 74 y_OP_isWovenOnly, .fieldLink "AdviceWeaver$Machine" 29 "AdviceWeaver$Machine" "used" "I", .fieldLink "AdviceWeaver$Machine" 25 "AdviceWeaver$Machine" "fuel" "I", .methodLink "AdviceWeaver$Machine" 104 y_MC_wayOn, .instanceMethod y_MC_wayOn, .selects "AdviceWeaver$Machine" y_MC_wayOn y_MC_wayOn, .code y_MC_wayOn b_MC_wayOn 5 (some .int), .methodLink "AdviceWeaver$Machine" 92 y_MC_giveBack, .instanceMethod y_MC_giveBack, .selects "AdviceWeaver$Machine" y_MC_giveBack y_MC_giveBack, .code y_MC_giveBack b_MC_giveBack 3 none, .methodLink "AdviceWeaver$Machine" 84 y_MC_enter, .instanceMethod y_MC_enter, .selects "AdviceWeaver$Machine" y_MC_enter y_MC_enter, .code y_MC_enter b_MC_enter 7 none, .methodLink "AdviceWeaver$Machine" 100 y_MC_divide, .instanceMethod y_MC_divide, .selects "AdviceWeaver$Machine" y_MC_divide y_MC_divide, .code y_MC_divide b_MC_divide 5 none, .methodLink "AdviceWeaver$Machine" 35 y_AR_fill, .constant "AdviceWeaver$Machine" 56 1000000, .methodLink "AdviceWeaver$Machine" 57 y_MC_advance]
def wA_8 : List Cond := [.instanceMethod y_MC_advance, .selects "AdviceWeaver$Machine" y_MC_advance y_MC_advance, .code y_MC_advance b_MC_advance 5 none, .methodLink "AdviceWeaver" 108 y_AW_bodyOf, .instanceMethod y_AW_bodyOf, .selects "AdviceWeaver" y_AW_bodyOf y_AW_bodyOf, .code y_AW_bodyOf b_AW_bodyOf 3 (some (.object "AdviceWeaver$Body")), .fieldLink "AdviceWeaver" 59 "AdviceWeaver" "machine" "LAdviceWeaver$Machine;", .methodLink "AdviceWeaver" 112 y_MC_execute, .instanceMethod y_MC_execute, .selects "AdviceWeaver$Machine" y_MC_execute y_MC_execute, .code y_MC_execute b_MC_execute 7 (some .int), .fieldLink "AdviceWeaver" 116 "AdviceWeaver$Machine" "value" "I", .fieldLink "AdviceWeaver" 119 "AdviceWeaver$Machine" "used" "I", .fieldLink "AdviceWeaver" 122 "AdviceWeaver$Machine" "marks" "I", .methodLink "AdviceWeaver" 125 y_MC_markAt, .instanceMethod y_MC_markAt, .selects "AdviceWeaver$Machine" y_MC_markAt y_MC_markAt, .code y_MC_markAt b_MC_markAt 2 (some .int), .methodLink "AdviceWeaver" 128 y_MC_probesAt, .instanceMethod y_MC_probesAt, .selects "AdviceWeaver$Machine" y_MC_probesAt y_MC_probesAt, .code y_MC_probesAt b_MC_probesAt 3 (some .int), .fieldLink "AdviceWeaver" 141 "AdviceWeaver$Body" "greatest" "I", .fieldLink "AdviceWeaver" 138 "AdviceWeaver$Body" "instructions" "I", .fieldLink "AdviceWeaver" 135 "AdviceWeaver$Body" "handlers" "I", .fieldLink "AdviceWeaver" 132 "AdviceWeaver$Body" "length" "I", .methodLink "AdviceWeaver" 144 y_B_byteAt, .methodLink "AdviceWeaver" 147 y_B_part, .methodLink "AdviceWeaver" 150 y_B_isReached, .fieldLink "AdviceWeaver" 153 "AdviceWeaver$Body" "depths" "[I", .methodLink "AdviceWeaverModel" 96 y_MD_outside, .static y_MD_outside, .initialized "AdviceWeaverModel", .code y_MD_outside b_MD_outside 3 (some .boolean), .fieldLink "AdviceWeaverModel" 100 "AdviceWeaverModel" "size" "I", .fieldLink "AdviceWeaverModel" 7 "AdviceWeaverModel" "bytes" "[I", .fieldLink "AdviceWeaverModel" 160 "AdviceWeaverModel" "at" "I", .fieldLink "AdviceWeaverModel" 163 "AdviceWeaverModel" "wrong" "I", .fieldLink "AdviceWeaverModel" 13 "AdviceWeaverModel" "name" "[I", .methodLink "AdviceWeaverModel" 166 y_MD_next, .instanceMethod y_MD_next, .selects "AdviceWeaverModel" y_MD_next y_MD_next, .code y_MD_next b_MD_next 4 (some .int), .fieldLink "AdviceWeaverModel" 16 "AdviceWeaverModel" "args" "[I", .fieldLink "AdviceWeaverModel" 19 "AdviceWeaverModel" "locals" "[I", .fieldLink "AdviceWeaverModel" 22 "AdviceWeaverModel" "room" "[I", .fieldLink "AdviceWeaverModel" 25 "AdviceWeaverModel" "length" "[I", .fieldLink "AdviceWeaverModel" 28 "AdviceWeaverModel" "code" "[I", .fieldLink "AdviceWeaverModel" 31 "AdviceWeaverModel" "handlers" "[I"]
def wA_9 : List Cond := [.fieldLink "AdviceWeaverModel" 34 "AdviceWeaverModel" "handler" "[I", .fieldLink "AdviceWeaverModel" 50 "AdviceWeaverModel" "begins" "[Z", .methodLink "AdviceWeaverModel" 104 y_MD_op, .instanceMethod y_MD_op, .selects "AdviceWeaverModel" y_MD_op y_MD_op, .code y_MD_op b_MD_op 3 (some .int), .methodLink "AdviceWeaverModel" 111 y_MD_sizeOf, .static y_MD_sizeOf, .code y_MD_sizeOf b_MD_sizeOf 1 (some .int), .methodLink "AdviceWeaverModel" 108 y_MD_signed, .instanceMethod y_MD_signed, .selects "AdviceWeaverModel" y_MD_signed y_MD_signed, .code y_MD_signed b_MD_signed 3 (some .int), .methodLink "AdviceWeaverModel" 115 y_MD_divide, .instanceMethod y_MD_divide, .selects "AdviceWeaverModel" y_MD_divide y_MD_divide, .code y_MD_divide b_MD_divide 4 (some .boolean), .methodLink "AdviceWeaverModel" 119 y_MD_branches, .static y_MD_branches, .code y_MD_branches b_MD_branches 1 (some .boolean), .methodLink "AdviceWeaverModel" 122 y_MD_target, .instanceMethod y_MD_target, .selects "AdviceWeaverModel" y_MD_target y_MD_target, .code y_MD_target b_MD_target 3 (some .int), .methodLink "AdviceWeaverModel" 125 y_MD_isPlace, .instanceMethod y_MD_isPlace, .selects "AdviceWeaverModel" y_MD_isPlace y_MD_isPlace, .code y_MD_isPlace b_MD_isPlace 3 (some .boolean), .fieldLink "AdviceWeaverModel" 129 "AdviceWeaverModel" "read" "I", .fieldLink "AdviceWeaverModel" 53 "AdviceWeaverModel" "depths" "[I", .fieldLink "AdviceWeaverModel" 136 "AdviceWeaverModel" "more" "Z", .fieldLink "AdviceWeaverModel" 56 "AdviceWeaverModel" "sets" "[J", .fieldLink "AdviceWeaverModel" 132 "AdviceWeaverModel" "sound" "Z", .methodLink "AdviceWeaverModel" 139 y_MD_reach, .instanceMethod y_MD_reach, .selects "AdviceWeaverModel" y_MD_reach y_MD_reach, .code y_MD_reach b_MD_reach 6 none, .methodLink "AdviceWeaverModel" 143 y_MD_takes, .instanceMethod y_MD_takes, .selects "AdviceWeaverModel" y_MD_takes y_MD_takes, .code y_MD_takes b_MD_takes 4 (some .int), .methodLink "AdviceWeaverModel" 146 y_MD_with, .instanceMethod y_MD_with, .selects "AdviceWeaverModel" y_MD_with y_MD_with, .code y_MD_with b_MD_with 8 (some .long), .methodLink "AdviceWeaverModel" 150 y_MD_puts, .static y_MD_puts, .code y_MD_puts b_MD_puts 1 (some .int), .methodLink "AdviceWeaverModel" 153 y_MD_ends, .static y_MD_ends]
def wA_10 : List Cond := [.code y_MD_ends b_MD_ends 1 (some .boolean), .methodLink "AdviceWeaverModel" 156 y_MD_follow, .instanceMethod y_MD_follow, .selects "AdviceWeaverModel" y_MD_follow y_MD_follow, .code y_MD_follow b_MD_follow 8 none, .methodLink "AdviceWeaverModel" 169 y_MD_readMethod, .instanceMethod y_MD_readMethod, .selects "AdviceWeaverModel" y_MD_readMethod y_MD_readMethod, .code y_MD_readMethod b_MD_readMethod 3 none, .methodLink "AdviceWeaverModel" 173 y_MD_formed, .instanceMethod y_MD_formed, .selects "AdviceWeaverModel" y_MD_formed y_MD_formed, .code y_MD_formed b_MD_formed 5 (some .boolean), .methodLink "AdviceWeaverModel" 176 y_MD_explore, .instanceMethod y_MD_explore, .selects "AdviceWeaverModel" y_MD_explore y_MD_explore, .code y_MD_explore b_MD_explore 3 (some .boolean), .fieldLink "AdviceWeaverModel" 179 "AdviceWeaverModel" "methods" "I", .fieldLink "AdviceWeaverModel" 182 "AdviceWeaverModel" "woven" "Z", .methodLink "AdviceWeaverModel" 185 y_MD_copy, .instanceMethod y_MD_copy, .selects "AdviceWeaverModel" y_MD_copy y_MD_copy, .code y_MD_copy b_MD_copy 4 none, .fieldLink "AdviceWeaverModel" 47 "AdviceWeaverModel" "fails" "[Z", .fieldLink "AdviceWeaverModel" 188 "AdviceWeaverModel" "chain" "I", .fieldLink "AdviceWeaverModel" 37 "AdviceWeaverModel" "cover" "[Z", .fieldLink "AdviceWeaverModel" 41 "AdviceWeaverModel" "letter" "[I", .fieldLink "AdviceWeaverModel" 44 "AdviceWeaverModel" "wanted" "[I", .fieldLink "AdviceWeaverModel" 60 "AdviceWeaverModel" "before" "[Z", .fieldLink "AdviceWeaverModel" 66 "AdviceWeaverModel" "lead" "[I", .fieldLink "AdviceWeaverModel" 69 "AdviceWeaverModel" "own" "[I", .fieldLink "AdviceWeaverModel" 63 "AdviceWeaverModel" "wide" "[Z", .fieldLink "AdviceWeaverModel" 72 "AdviceWeaverModel" "fresh" "[I", .fieldLink "AdviceWeaverModel" 191 "AdviceWeaverModel" "made" "I", .methodLink "AdviceWeaverModel" 194 y_MD_emit, .instanceMethod y_MD_emit, .selects "AdviceWeaverModel" y_MD_emit y_MD_emit, .code y_MD_emit b_MD_emit 2 none, .methodLink "AdviceWeaverModel" 197 y_MD_choose, .instanceMethod y_MD_choose, .selects "AdviceWeaverModel" y_MD_choose y_MD_choose, .code y_MD_choose b_MD_choose 5 none, .methodLink "AdviceWeaverModel" 201 y_MD_lay, .instanceMethod y_MD_lay, .selects "AdviceWeaverModel" y_MD_lay y_MD_lay, .code y_MD_lay b_MD_lay 6 (some .boolean), .methodLink "AdviceWeaverModel" 204 y_MD_emitOne, .instanceMethod y_MD_emitOne, .selects "AdviceWeaverModel" y_MD_emitOne y_MD_emitOne, .code y_MD_emitOne b_MD_emitOne 7 none]
def wA_11 : List Cond := [.methodLink "AdviceWeaverModel" 207 y_MD_transform, .instanceMethod y_MD_transform, .selects "AdviceWeaverModel" y_MD_transform y_MD_transform, .code y_MD_transform b_MD_transform 7 (some .boolean), .fieldLink "AdviceWeaverModel" 75 "AdviceWeaverModel" "method" "[I", .fieldLink "AdviceWeaverModel" 210 "AdviceWeaverModel" "under" "I", .fieldLink "AdviceWeaverModel" 78 "AdviceWeaverModel" "place" "[I", .fieldLink "AdviceWeaverModel" 81 "AdviceWeaverModel" "height" "[I", .fieldLink "AdviceWeaverModel" 84 "AdviceWeaverModel" "local" "[I", .fieldLink "AdviceWeaverModel" 87 "AdviceWeaverModel" "stack" "[I", .methodLink "AdviceWeaverModel" 222 y_MD_pop, .instanceMethod y_MD_pop, .selects "AdviceWeaverModel" y_MD_pop y_MD_pop, .code y_MD_pop b_MD_pop 2 (some .int), .methodLink "AdviceWeaverModel" 213 y_MD_push, .instanceMethod y_MD_push, .selects "AdviceWeaverModel" y_MD_push y_MD_push, .code y_MD_push b_MD_push 3 none, .fieldLink "AdviceWeaverModel" 216 "AdviceWeaverModel" "outcome" "I", .fieldLink "AdviceWeaverModel" 219 "AdviceWeaverModel" "value" "I", .methodLink "AdviceWeaverModel" 226 y_MD_raise, .instanceMethod y_MD_raise, .selects "AdviceWeaverModel" y_MD_raise y_MD_raise, .code y_MD_raise b_MD_raise 5 none, .methodLink "AdviceWeaverModel" 229 y_MD_enter, .instanceMethod y_MD_enter, .selects "AdviceWeaverModel" y_MD_enter y_MD_enter, .code y_MD_enter b_MD_enter 3 none, .fieldLink "AdviceWeaverModel" 232 "AdviceWeaverModel" "marks" "I", .fieldLink "AdviceWeaverModel" 90 "AdviceWeaverModel" "mark" "[I", .fieldLink "AdviceWeaverModel" 93 "AdviceWeaverModel" "probe" "[I", .fieldLink "AdviceWeaverModel" 235 "AdviceWeaverModel" "used" "I", .methodLink "AdviceWeaverModel" 242 y_MD_calculate, .instanceMethod y_MD_calculate, .selects "AdviceWeaverModel" y_MD_calculate y_MD_calculate, .code y_MD_calculate b_MD_calculate 4 none, .methodLink "AdviceWeaverModel" 251 y_MD_plain, .instanceMethod y_MD_plain, .selects "AdviceWeaverModel" y_MD_plain y_MD_plain, .code y_MD_plain b_MD_plain 6 none, .methodLink "AdviceWeaverModel" 248 y_MD_giveBack, .instanceMethod y_MD_giveBack, .selects "AdviceWeaverModel" y_MD_giveBack y_MD_giveBack, .code y_MD_giveBack b_MD_giveBack 2 none, .methodLink "AdviceWeaverModel" 245 y_MD_call, .instanceMethod y_MD_call, .selects "AdviceWeaverModel" y_MD_call y_MD_call, .code y_MD_call b_MD_call 5 none, .methodLink "AdviceWeaverModel" 238 y_MD_branch, .instanceMethod y_MD_branch]
def wA_12 : List Cond := [.selects "AdviceWeaverModel" y_MD_branch y_MD_branch, .code y_MD_branch b_MD_branch 6 none, .constant "AdviceWeaverModel" 254 1000000, .methodLink "AdviceWeaverModel" 255 y_MD_one, .instanceMethod y_MD_one, .selects "AdviceWeaverModel" y_MD_one y_MD_one, .code y_MD_one b_MD_one 5 none, .methodLink "AdviceWeaverModel" 258 y_MD_slot, .instanceMethod y_MD_slot, .selects "AdviceWeaverModel" y_MD_slot y_MD_slot, .code y_MD_slot b_MD_slot 3 (some .int), .instanceMethod y_AW_init, .code y_AW_init b_AW_init 2 none, .methodLink "AdviceWeaver" 1 objectInit, .methodLink "AdviceWeaver" 28 y_B_init, .methodLink "AdviceWeaver" 58 y_MC_init, .instanceMethod y_CF_init, .code y_CF_init b_CF_init 1 none, .methodLink "AdviceWeaver$ClassFile" 3 objectInit, .instanceMethod y_B_init, .code y_B_init b_B_init 3 none, .methodLink "AdviceWeaver$Body" 3 objectInit, .instanceMethod y_TR_init, .code y_TR_init b_TR_init 1 none, .methodLink "AdviceWeaver$Transformer" 1 objectInit, .instanceMethod y_FL_init, .code y_FL_init b_FL_init 1 none, .methodLink "AdviceWeaver$Flow" 3 objectInit, .instanceMethod y_LM_init, .code y_LM_init b_LM_init 1 none, .methodLink "AdviceWeaver$Loom" 3 objectInit, .methodLink "AdviceWeaver$Loom" 11 y_B_init, .instanceMethod y_MC_init, .code y_MC_init b_MC_init 2 none, .methodLink "AdviceWeaver$Machine" 3 objectInit, .instanceMethod y_FR_init, .code y_FR_init b_FR_init 1 none, .methodLink "AdviceWeaver$Frame" 3 objectInit, .instanceMethod y_MD_init, .code y_MD_init b_MD_init 1 none, .methodLink "AdviceWeaverModel" 1 objectInit, .instanceMethod objectInit, .code objectInit ⟨#[0xb1]⟩ 1 none, .arrayClass .int, .arrayClass .boolean, .arrayClass .long, .instantiable "AdviceWeaver" 12, .instantiable "AdviceWeaver$ClassFile" 4, .instantiable "AdviceWeaver$Body" 12, .instantiable "AdviceWeaver$Transformer" 3]
def wA_13 : List Cond := [.instantiable "AdviceWeaver$Flow" 3, .instantiable "AdviceWeaver$Loom" 8, .instantiable "AdviceWeaver$Machine" 9, .instantiable "AdviceWeaver$Frame" 5, .instantiable "AdviceWeaverModel" 43, .classLink "AdviceWeaverLaw" 7 "AdviceWeaver", .classLink "AdviceWeaver" 7 "AdviceWeaver$ClassFile", .classLink "AdviceWeaver" 16 "AdviceWeaver$Body", .classLink "AdviceWeaver" 31 "AdviceWeaver$Transformer", .classLink "AdviceWeaver" 42 "AdviceWeaver$Flow", .classLink "AdviceWeaver" 49 "AdviceWeaver$Loom", .classLink "AdviceWeaver$Loom" 9 "AdviceWeaver$Body", .classLink "AdviceWeaver" 56 "AdviceWeaver$Machine", .classLink "AdviceWeaver$Machine" 11 "AdviceWeaver$Frame", .classLink "AdviceWeaverLaw" 10 "AdviceWeaverModel", .laysFinal "AdviceWeaver$Body" "AdviceWeaver$Body" "code" "[I", .laysFinal "AdviceWeaver$Body" "AdviceWeaver$Body" "depths" "[I", .laysFinal "AdviceWeaver$Body" "AdviceWeaver$Body" "parts" "[I", .laysFinal "AdviceWeaver$Body" "AdviceWeaver$Body" "mostHandlers" "I", .lays "AdviceWeaver$Body" "AdviceWeaver$Body" "name" "I", .lays "AdviceWeaver$Body" "AdviceWeaver$Body" "args" "I", .lays "AdviceWeaver$Body" "AdviceWeaver$Body" "locals" "I", .lays "AdviceWeaver$Body" "AdviceWeaver$Body" "stack" "I", .lays "AdviceWeaver$Body" "AdviceWeaver$Body" "length" "I", .lays "AdviceWeaver$Body" "AdviceWeaver$Body" "handlers" "I", .lays "AdviceWeaver$Body" "AdviceWeaver$Body" "instructions" "I", .lays "AdviceWeaver$Body" "AdviceWeaver$Body" "greatest" "I", .laysFinal "AdviceWeaver$ClassFile" "AdviceWeaver$ClassFile" "bytes" "[I", .lays "AdviceWeaver$ClassFile" "AdviceWeaver$ClassFile" "size" "I", .lays "AdviceWeaver$ClassFile" "AdviceWeaver$ClassFile" "at" "I", .lays "AdviceWeaver$ClassFile" "AdviceWeaver$ClassFile" "wrong" "Z", .laysFinal "AdviceWeaver$Flow" "AdviceWeaver$Flow" "sets" "[I", .lays "AdviceWeaver$Flow" "AdviceWeaver$Flow" "changed" "Z", .lays "AdviceWeaver$Flow" "AdviceWeaver$Flow" "sound" "Z", .laysFinal "AdviceWeaver$Frame" "AdviceWeaver$Frame" "stack" "[I", .laysFinal "AdviceWeaver$Frame" "AdviceWeaver$Frame" "locals" "[I", .lays "AdviceWeaver$Frame" "AdviceWeaver$Frame" "height" "I", .lays "AdviceWeaver$Frame" "AdviceWeaver$Frame" "method" "I", .lays "AdviceWeaver$Frame" "AdviceWeaver$Frame" "place" "I", .laysFinal "AdviceWeaver$Loom" "AdviceWeaver$Loom" "old" "LAdviceWeaver$Body;", .laysFinal "AdviceWeaver$Loom" "AdviceWeaver$Loom" "ops" "[I", .laysFinal "AdviceWeaver$Loom" "AdviceWeaver$Loom" "numbers" "[I", .laysFinal "AdviceWeaver$Loom" "AdviceWeaver$Loom" "sources" "[I", .laysFinal "AdviceWeaver$Loom" "AdviceWeaver$Loom" "places" "[I", .laysFinal "AdviceWeaver$Loom" "AdviceWeaver$Loom" "leads" "[I", .laysFinal "AdviceWeaver$Loom" "AdviceWeaver$Loom" "leaders" "[I", .lays "AdviceWeaver$Loom" "AdviceWeaver$Loom" "items" "I", .laysFinal "AdviceWeaver$Machine" "AdviceWeaver$Machine" "frames" "[LAdviceWeaver$Frame;", .laysFinal "AdviceWeaver$Machine" "AdviceWeaver$Machine" "keptMarks" "[I", .laysFinal "AdviceWeaver$Machine" "AdviceWeaver$Machine" "probes" "[I"]
def wA_14 : List Cond := [.lays "AdviceWeaver$Machine" "AdviceWeaver$Machine" "open" "I", .lays "AdviceWeaver$Machine" "AdviceWeaver$Machine" "fuel" "I", .lays "AdviceWeaver$Machine" "AdviceWeaver$Machine" "outcome" "I", .lays "AdviceWeaver$Machine" "AdviceWeaver$Machine" "value" "I", .lays "AdviceWeaver$Machine" "AdviceWeaver$Machine" "used" "I", .lays "AdviceWeaver$Machine" "AdviceWeaver$Machine" "marks" "I", .lays "AdviceWeaver$Transformer" "AdviceWeaver$Transformer" "cover" "Z", .lays "AdviceWeaver$Transformer" "AdviceWeaver$Transformer" "letter" "I", .lays "AdviceWeaver$Transformer" "AdviceWeaver$Transformer" "args" "I", .laysFinal "AdviceWeaver" "AdviceWeaver" "file" "LAdviceWeaver$ClassFile;", .laysFinal "AdviceWeaver" "AdviceWeaver" "freshBodies" "[LAdviceWeaver$Body;", .laysFinal "AdviceWeaver" "AdviceWeaver" "loadedBodies" "[LAdviceWeaver$Body;", .laysFinal "AdviceWeaver" "AdviceWeaver" "wovenBodies" "[LAdviceWeaver$Body;", .laysFinal "AdviceWeaver" "AdviceWeaver" "chain" "[LAdviceWeaver$Transformer;", .laysFinal "AdviceWeaver" "AdviceWeaver" "failures" "[Z", .laysFinal "AdviceWeaver" "AdviceWeaver" "flow" "LAdviceWeaver$Flow;", .laysFinal "AdviceWeaver" "AdviceWeaver" "loom" "LAdviceWeaver$Loom;", .laysFinal "AdviceWeaver" "AdviceWeaver" "machine" "LAdviceWeaver$Machine;", .lays "AdviceWeaver" "AdviceWeaver" "methods" "I", .lays "AdviceWeaver" "AdviceWeaver" "transformers" "I", .lays "AdviceWeaver" "AdviceWeaver" "isWoven" "Z", .laysFinal "AdviceWeaverModel" "AdviceWeaverModel" "bytes" "[I", .lays "AdviceWeaverModel" "AdviceWeaverModel" "size" "I", .laysFinal "AdviceWeaverModel" "AdviceWeaverModel" "name" "[I", .laysFinal "AdviceWeaverModel" "AdviceWeaverModel" "args" "[I", .laysFinal "AdviceWeaverModel" "AdviceWeaverModel" "locals" "[I", .laysFinal "AdviceWeaverModel" "AdviceWeaverModel" "room" "[I", .laysFinal "AdviceWeaverModel" "AdviceWeaverModel" "length" "[I", .laysFinal "AdviceWeaverModel" "AdviceWeaverModel" "code" "[I", .laysFinal "AdviceWeaverModel" "AdviceWeaverModel" "handlers" "[I", .laysFinal "AdviceWeaverModel" "AdviceWeaverModel" "handler" "[I", .lays "AdviceWeaverModel" "AdviceWeaverModel" "methods" "I", .lays "AdviceWeaverModel" "AdviceWeaverModel" "read" "I", .lays "AdviceWeaverModel" "AdviceWeaverModel" "woven" "Z", .lays "AdviceWeaverModel" "AdviceWeaverModel" "at" "I", .lays "AdviceWeaverModel" "AdviceWeaverModel" "wrong" "I", .lays "AdviceWeaverModel" "AdviceWeaverModel" "chain" "I", .laysFinal "AdviceWeaverModel" "AdviceWeaverModel" "cover" "[Z", .laysFinal "AdviceWeaverModel" "AdviceWeaverModel" "letter" "[I", .laysFinal "AdviceWeaverModel" "AdviceWeaverModel" "wanted" "[I", .laysFinal "AdviceWeaverModel" "AdviceWeaverModel" "fails" "[Z", .laysFinal "AdviceWeaverModel" "AdviceWeaverModel" "begins" "[Z", .laysFinal "AdviceWeaverModel" "AdviceWeaverModel" "depths" "[I", .laysFinal "AdviceWeaverModel" "AdviceWeaverModel" "sets" "[J", .lays "AdviceWeaverModel" "AdviceWeaverModel" "sound" "Z", .lays "AdviceWeaverModel" "AdviceWeaverModel" "more" "Z", .laysFinal "AdviceWeaverModel" "AdviceWeaverModel" "before" "[Z", .laysFinal "AdviceWeaverModel" "AdviceWeaverModel" "wide" "[Z", .laysFinal "AdviceWeaverModel" "AdviceWeaverModel" "lead" "[I", .laysFinal "AdviceWeaverModel" "AdviceWeaverModel" "own" "[I"]
def wA_15 : List Cond := [.lays "AdviceWeaverModel" "AdviceWeaverModel" "made" "I", .laysFinal "AdviceWeaverModel" "AdviceWeaverModel" "fresh" "[I", .lays "AdviceWeaverModel" "AdviceWeaverModel" "under" "I", .laysFinal "AdviceWeaverModel" "AdviceWeaverModel" "method" "[I", .laysFinal "AdviceWeaverModel" "AdviceWeaverModel" "place" "[I", .laysFinal "AdviceWeaverModel" "AdviceWeaverModel" "height" "[I", .laysFinal "AdviceWeaverModel" "AdviceWeaverModel" "local" "[I", .laysFinal "AdviceWeaverModel" "AdviceWeaverModel" "stack" "[I", .lays "AdviceWeaverModel" "AdviceWeaverModel" "outcome" "I", .lays "AdviceWeaverModel" "AdviceWeaverModel" "value" "I", .lays "AdviceWeaverModel" "AdviceWeaverModel" "used" "I", .lays "AdviceWeaverModel" "AdviceWeaverModel" "marks" "I", .laysFinal "AdviceWeaverModel" "AdviceWeaverModel" "mark" "[I", .laysFinal "AdviceWeaverModel" "AdviceWeaverModel" "probe" "[I"]
def wAll : List Cond := wA_0 ++ (wA_1 ++ (wA_2 ++ (wA_3 ++ (wA_4 ++ (wA_5 ++ (wA_6 ++ (wA_7 ++ (wA_8 ++ (wA_9 ++ (wA_10 ++ (wA_11 ++ (wA_12 ++ (wA_13 ++ (wA_14 ++ (wA_15)))))))))))))))
theorem wA_0_in {w : Cond} (h : w ∈ wA_0) : w ∈ wAll := List.mem_append_left _ h
theorem wA_1_in {w : Cond} (h : w ∈ wA_1) : w ∈ wAll := List.mem_append_right _ (List.mem_append_left _ h)
theorem wA_2_in {w : Cond} (h : w ∈ wA_2) : w ∈ wAll := List.mem_append_right _ (List.mem_append_right _ (List.mem_append_left _ h))
theorem wA_3_in {w : Cond} (h : w ∈ wA_3) : w ∈ wAll := List.mem_append_right _ (List.mem_append_right _ (List.mem_append_right _ (List.mem_append_left _ h)))
theorem wA_4_in {w : Cond} (h : w ∈ wA_4) : w ∈ wAll := List.mem_append_right _ (List.mem_append_right _ (List.mem_append_right _ (List.mem_append_right _ (List.mem_append_left _ h))))
theorem wA_5_in {w : Cond} (h : w ∈ wA_5) : w ∈ wAll := List.mem_append_right _ (List.mem_append_right _ (List.mem_append_right _ (List.mem_append_right _ (List.mem_append_right _ (List.mem_append_left _ h)))))
theorem wA_6_in {w : Cond} (h : w ∈ wA_6) : w ∈ wAll := List.mem_append_right _ (List.mem_append_right _ (List.mem_append_right _ (List.mem_append_right _ (List.mem_append_right _ (List.mem_append_right _ (List.mem_append_left _ h))))))
theorem wA_7_in {w : Cond} (h : w ∈ wA_7) : w ∈ wAll := List.mem_append_right _ (List.mem_append_right _ (List.mem_append_right _ (List.mem_append_right _ (List.mem_append_right _ (List.mem_append_right _ (List.mem_append_right _ (List.mem_append_left _ h)))))))
theorem wA_8_in {w : Cond} (h : w ∈ wA_8) : w ∈ wAll := List.mem_append_right _ (List.mem_append_right _ (List.mem_append_right _ (List.mem_append_right _ (List.mem_append_right _ (List.mem_append_right _ (List.mem_append_right _ (List.mem_append_right _ (List.mem_append_left _ h))))))))
theorem wA_9_in {w : Cond} (h : w ∈ wA_9) : w ∈ wAll := List.mem_append_right _ (List.mem_append_right _ (List.mem_append_right _ (List.mem_append_right _ (List.mem_append_right _ (List.mem_append_right _ (List.mem_append_right _ (List.mem_append_right _ (List.mem_append_right _ (List.mem_append_left _ h)))))))))
theorem wA_10_in {w : Cond} (h : w ∈ wA_10) : w ∈ wAll := List.mem_append_right _ (List.mem_append_right _ (List.mem_append_right _ (List.mem_append_right _ (List.mem_append_right _ (List.mem_append_right _ (List.mem_append_right _ (List.mem_append_right _ (List.mem_append_right _ (List.mem_append_right _ (List.mem_append_left _ h))))))))))
theorem wA_11_in {w : Cond} (h : w ∈ wA_11) : w ∈ wAll := List.mem_append_right _ (List.mem_append_right _ (List.mem_append_right _ (List.mem_append_right _ (List.mem_append_right _ (List.mem_append_right _ (List.mem_append_right _ (List.mem_append_right _ (List.mem_append_right _ (List.mem_append_right _ (List.mem_append_right _ (List.mem_append_left _ h)))))))))))
theorem wA_12_in {w : Cond} (h : w ∈ wA_12) : w ∈ wAll := List.mem_append_right _ (List.mem_append_right _ (List.mem_append_right _ (List.mem_append_right _ (List.mem_append_right _ (List.mem_append_right _ (List.mem_append_right _ (List.mem_append_right _ (List.mem_append_right _ (List.mem_append_right _ (List.mem_append_right _ (List.mem_append_right _ (List.mem_append_left _ h))))))))))))
theorem wA_13_in {w : Cond} (h : w ∈ wA_13) : w ∈ wAll := List.mem_append_right _ (List.mem_append_right _ (List.mem_append_right _ (List.mem_append_right _ (List.mem_append_right _ (List.mem_append_right _ (List.mem_append_right _ (List.mem_append_right _ (List.mem_append_right _ (List.mem_append_right _ (List.mem_append_right _ (List.mem_append_right _ (List.mem_append_right _ (List.mem_append_left _ h)))))))))))))
theorem wA_14_in {w : Cond} (h : w ∈ wA_14) : w ∈ wAll := List.mem_append_right _ (List.mem_append_right _ (List.mem_append_right _ (List.mem_append_right _ (List.mem_append_right _ (List.mem_append_right _ (List.mem_append_right _ (List.mem_append_right _ (List.mem_append_right _ (List.mem_append_right _ (List.mem_append_right _ (List.mem_append_right _ (List.mem_append_right _ (List.mem_append_right _ (List.mem_append_left _ h))))))))))))))
theorem wA_15_in {w : Cond} (h : w ∈ wA_15) : w ∈ wAll := List.mem_append_right _ (List.mem_append_right _ (List.mem_append_right _ (List.mem_append_right _ (List.mem_append_right _ (List.mem_append_right _ (List.mem_append_right _ (List.mem_append_right _ (List.mem_append_right _ (List.mem_append_right _ (List.mem_append_right _ (List.mem_append_right _ (List.mem_append_right _ (List.mem_append_right _ (List.mem_append_right _ (h)))))))))))))))
theorem hw_0 : Cond.fieldLink "AdviceWeaver$ClassFile" 15 "AdviceWeaver$ClassFile" "size" "I" ∈ wAll := wA_0_in (List.mem_of_getElem? (i := 0) rfl)
theorem hw_1 : Cond.fieldLink "AdviceWeaver$ClassFile" 9 "AdviceWeaver$ClassFile" "bytes" "[I" ∈ wAll := wA_0_in (List.mem_of_getElem? (i := 1) rfl)
theorem hw_2 : Cond.fieldLink "AdviceWeaver" 10 "AdviceWeaver" "file" "LAdviceWeaver$ClassFile;" ∈ wAll := wA_0_in (List.mem_of_getElem? (i := 2) rfl)
theorem hw_3 : Cond.methodLink "AdviceWeaver" 74 y_CF_append ∈ wAll := wA_0_in (List.mem_of_getElem? (i := 3) rfl)
theorem hw_4 : Cond.instanceMethod y_CF_append ∈ wAll := wA_0_in (List.mem_of_getElem? (i := 4) rfl)
theorem hw_5 : Cond.selects "AdviceWeaver$ClassFile" y_CF_append y_CF_append ∈ wAll := wA_0_in (List.mem_of_getElem? (i := 5) rfl)
theorem hw_6 : Cond.initialized "AdviceWeaver$ClassFile" ∈ wAll := wA_0_in (List.mem_of_getElem? (i := 6) rfl)
theorem hw_7 : Cond.code y_CF_append b_CF_append 4 (some .boolean) ∈ wAll := wA_0_in (List.mem_of_getElem? (i := 7) rfl)
theorem hw_8 : Cond.methodLink "AdviceWeaver" 78 y_CF_empty ∈ wAll := wA_0_in (List.mem_of_getElem? (i := 8) rfl)
theorem hw_9 : Cond.instanceMethod y_CF_empty ∈ wAll := wA_0_in (List.mem_of_getElem? (i := 9) rfl)
theorem hw_10 : Cond.selects "AdviceWeaver$ClassFile" y_CF_empty y_CF_empty ∈ wAll := wA_0_in (List.mem_of_getElem? (i := 10) rfl)
theorem hw_11 : Cond.code y_CF_empty b_CF_empty 1 none ∈ wAll := wA_0_in (List.mem_of_getElem? (i := 11) rfl)
theorem hw_12 : Cond.fieldLink "AdviceWeaver$ClassFile" 22 "AdviceWeaver$ClassFile" "wrong" "Z" ∈ wAll := wA_0_in (List.mem_of_getElem? (i := 12) rfl)
theorem hw_13 : Cond.fieldLink "AdviceWeaver$ClassFile" 19 "AdviceWeaver$ClassFile" "at" "I" ∈ wAll := wA_0_in (List.mem_of_getElem? (i := 13) rfl)
theorem hw_14 : Cond.fieldLink "AdviceWeaver$Body" 40 "AdviceWeaver$Body" "handlers" "I" ∈ wAll := wA_0_in (List.mem_of_getElem? (i := 14) rfl)
theorem hw_15 : Cond.fieldLink "AdviceWeaver$Body" 21 "AdviceWeaver$Body" "mostHandlers" "I" ∈ wAll := wA_0_in (List.mem_of_getElem? (i := 15) rfl)
theorem hw_16 : Cond.fieldLink "AdviceWeaver$Body" 18 "AdviceWeaver$Body" "parts" "[I" ∈ wAll := wA_0_in (List.mem_of_getElem? (i := 16) rfl)
theorem hw_17 : Cond.methodLink "AdviceWeaver$ClassFile" 26 y_CF_take ∈ wAll := wA_0_in (List.mem_of_getElem? (i := 17) rfl)
theorem hw_18 : Cond.instanceMethod y_CF_take ∈ wAll := wA_0_in (List.mem_of_getElem? (i := 18) rfl)
theorem hw_19 : Cond.selects "AdviceWeaver$ClassFile" y_CF_take y_CF_take ∈ wAll := wA_0_in (List.mem_of_getElem? (i := 19) rfl)
theorem hw_20 : Cond.code y_CF_take b_CF_take 3 (some .int) ∈ wAll := wA_0_in (List.mem_of_getElem? (i := 20) rfl)
theorem hw_21 : Cond.fieldLink "AdviceWeaver$ClassFile" 58 "AdviceWeaver$Body" "handlers" "I" ∈ wAll := wA_0_in (List.mem_of_getElem? (i := 21) rfl)
theorem hw_22 : Cond.methodLink "AdviceWeaver$ClassFile" 61 y_B_addHandler ∈ wAll := wA_0_in (List.mem_of_getElem? (i := 22) rfl)
theorem hw_23 : Cond.instanceMethod y_B_addHandler ∈ wAll := wA_0_in (List.mem_of_getElem? (i := 23) rfl)
theorem hw_24 : Cond.selects "AdviceWeaver$Body" y_B_addHandler y_B_addHandler ∈ wAll := wA_0_in (List.mem_of_getElem? (i := 24) rfl)
theorem hw_25 : Cond.initialized "AdviceWeaver$Body" ∈ wAll := wA_0_in (List.mem_of_getElem? (i := 25) rfl)
theorem hw_26 : Cond.code y_B_addHandler b_B_addHandler 6 none ∈ wAll := wA_0_in (List.mem_of_getElem? (i := 26) rfl)
theorem hw_27 : Cond.fieldLink "AdviceWeaver$ClassFile" 34 "AdviceWeaver$Body" "name" "I" ∈ wAll := wA_0_in (List.mem_of_getElem? (i := 27) rfl)
theorem hw_28 : Cond.fieldLink "AdviceWeaver$ClassFile" 39 "AdviceWeaver$Body" "args" "I" ∈ wAll := wA_0_in (List.mem_of_getElem? (i := 28) rfl)
theorem hw_29 : Cond.fieldLink "AdviceWeaver$ClassFile" 42 "AdviceWeaver$Body" "locals" "I" ∈ wAll := wA_0_in (List.mem_of_getElem? (i := 29) rfl)
theorem hw_30 : Cond.fieldLink "AdviceWeaver$ClassFile" 45 "AdviceWeaver$Body" "stack" "I" ∈ wAll := wA_0_in (List.mem_of_getElem? (i := 30) rfl)
theorem hw_31 : Cond.fieldLink "AdviceWeaver$ClassFile" 48 "AdviceWeaver$Body" "length" "I" ∈ wAll := wA_0_in (List.mem_of_getElem? (i := 31) rfl)
theorem hw_32 : Cond.fieldLink "AdviceWeaver$ClassFile" 51 "AdviceWeaver$Body" "code" "[I" ∈ wAll := wA_0_in (List.mem_of_getElem? (i := 32) rfl)
theorem hw_33 : Cond.methodLink "AdviceWeaver$ClassFile" 54 y_CF_readHandlers ∈ wAll := wA_0_in (List.mem_of_getElem? (i := 33) rfl)
theorem hw_34 : Cond.instanceMethod y_CF_readHandlers ∈ wAll := wA_0_in (List.mem_of_getElem? (i := 34) rfl)
theorem hw_35 : Cond.selects "AdviceWeaver$ClassFile" y_CF_readHandlers y_CF_readHandlers ∈ wAll := wA_0_in (List.mem_of_getElem? (i := 35) rfl)
theorem hw_36 : Cond.code y_CF_readHandlers b_CF_readHandlers 7 none ∈ wAll := wA_0_in (List.mem_of_getElem? (i := 36) rfl)
theorem hw_37 : Cond.methodLink "AdviceWeaver$ClassFile" 30 y_CF_readMethod ∈ wAll := wA_0_in (List.mem_of_getElem? (i := 37) rfl)
theorem hw_38 : Cond.instanceMethod y_CF_readMethod ∈ wAll := wA_0_in (List.mem_of_getElem? (i := 38) rfl)
theorem hw_39 : Cond.selects "AdviceWeaver$ClassFile" y_CF_readMethod y_CF_readMethod ∈ wAll := wA_0_in (List.mem_of_getElem? (i := 39) rfl)
theorem hw_40 : Cond.code y_CF_readMethod b_CF_readMethod 5 none ∈ wAll := wA_0_in (List.mem_of_getElem? (i := 40) rfl)
theorem hw_41 : Cond.fieldLink "AdviceWeaver$Op" 11 "AdviceWeaver$Op" "SIZES" "[I" ∈ wAll := wA_0_in (List.mem_of_getElem? (i := 41) rfl)
theorem hw_42 : Cond.fieldLink "AdviceWeaver$Body" 43 "AdviceWeaver$Body" "instructions" "I" ∈ wAll := wA_0_in (List.mem_of_getElem? (i := 42) rfl)
theorem hw_43 : Cond.fieldLink "AdviceWeaver$Body" 37 "AdviceWeaver$Body" "length" "I" ∈ wAll := wA_0_in (List.mem_of_getElem? (i := 43) rfl)
theorem hw_44 : Cond.fieldLink "AdviceWeaver$Body" 15 "AdviceWeaver$Body" "depths" "[I" ∈ wAll := wA_0_in (List.mem_of_getElem? (i := 44) rfl)
theorem hw_45 : Cond.fieldLink "AdviceWeaver$Body" 9 "AdviceWeaver$Body" "code" "[I" ∈ wAll := wA_0_in (List.mem_of_getElem? (i := 45) rfl)
theorem hw_46 : Cond.methodLink "AdviceWeaver$Body" 76 y_OP_size ∈ wAll := wA_0_in (List.mem_of_getElem? (i := 46) rfl)
theorem hw_47 : Cond.static y_OP_size ∈ wAll := wA_0_in (List.mem_of_getElem? (i := 47) rfl)
theorem hw_48 : Cond.initialized "AdviceWeaver$Op" ∈ wAll := wA_0_in (List.mem_of_getElem? (i := 48) rfl)
theorem hw_49 : Cond.code y_OP_size b_OP_size 1 (some .int) ∈ wAll := wA_0_in (List.mem_of_getElem? (i := 49) rfl)
theorem hw_50 : Cond.methodLink "AdviceWeaver$Op" 21 y_OP_isShortBranch ∈ wAll := wA_1_in (List.mem_of_getElem? (i := 0) rfl)
theorem hw_51 : Cond.static y_OP_isShortBranch ∈ wAll := wA_1_in (List.mem_of_getElem? (i := 1) rfl)
theorem hw_52 : Cond.code y_OP_isShortBranch b_OP_isShortBranch 1 (some .boolean) ∈ wAll := wA_1_in (List.mem_of_getElem? (i := 2) rfl)
theorem hw_53 : Cond.methodLink "AdviceWeaver$Op" 25 y_OP_isWideBranch ∈ wAll := wA_1_in (List.mem_of_getElem? (i := 3) rfl)
theorem hw_54 : Cond.static y_OP_isWideBranch ∈ wAll := wA_1_in (List.mem_of_getElem? (i := 4) rfl)
theorem hw_55 : Cond.code y_OP_isWideBranch b_OP_isWideBranch 1 (some .boolean) ∈ wAll := wA_1_in (List.mem_of_getElem? (i := 5) rfl)
theorem hw_56 : Cond.methodLink "AdviceWeaver$Body" 63 y_B_byteAt ∈ wAll := wA_1_in (List.mem_of_getElem? (i := 6) rfl)
theorem hw_57 : Cond.instanceMethod y_B_byteAt ∈ wAll := wA_1_in (List.mem_of_getElem? (i := 7) rfl)
theorem hw_58 : Cond.selects "AdviceWeaver$Body" y_B_byteAt y_B_byteAt ∈ wAll := wA_1_in (List.mem_of_getElem? (i := 8) rfl)
theorem hw_59 : Cond.code y_B_byteAt b_B_byteAt 2 (some .int) ∈ wAll := wA_1_in (List.mem_of_getElem? (i := 9) rfl)
theorem hw_60 : Cond.methodLink "AdviceWeaver$Body" 67 y_OP_signedByte ∈ wAll := wA_1_in (List.mem_of_getElem? (i := 10) rfl)
theorem hw_61 : Cond.static y_OP_signedByte ∈ wAll := wA_1_in (List.mem_of_getElem? (i := 11) rfl)
theorem hw_62 : Cond.code y_OP_signedByte b_OP_signedByte 1 (some .int) ∈ wAll := wA_1_in (List.mem_of_getElem? (i := 12) rfl)
theorem hw_63 : Cond.methodLink "AdviceWeaver$Body" 72 y_OP_isWideBranch ∈ wAll := wA_1_in (List.mem_of_getElem? (i := 13) rfl)
theorem hw_64 : Cond.methodLink "AdviceWeaver$Body" 89 y_OP_isBranch ∈ wAll := wA_1_in (List.mem_of_getElem? (i := 14) rfl)
theorem hw_65 : Cond.static y_OP_isBranch ∈ wAll := wA_1_in (List.mem_of_getElem? (i := 15) rfl)
theorem hw_66 : Cond.code y_OP_isBranch b_OP_isBranch 1 (some .boolean) ∈ wAll := wA_1_in (List.mem_of_getElem? (i := 16) rfl)
theorem hw_67 : Cond.methodLink "AdviceWeaver$Body" 98 y_OP_isWovenOnly ∈ wAll := wA_1_in (List.mem_of_getElem? (i := 17) rfl)
theorem hw_68 : Cond.static y_OP_isWovenOnly ∈ wAll := wA_1_in (List.mem_of_getElem? (i := 18) rfl)
theorem hw_69 : Cond.code y_OP_isWovenOnly b_OP_isWovenOnly 1 (some .boolean) ∈ wAll := wA_1_in (List.mem_of_getElem? (i := 19) rfl)
theorem hw_70 : Cond.fieldLink "AdviceWeaver$Body" 31 "AdviceWeaver$Body" "locals" "I" ∈ wAll := wA_1_in (List.mem_of_getElem? (i := 20) rfl)
theorem hw_71 : Cond.methodLink "AdviceWeaver$Body" 92 y_B_wayAt ∈ wAll := wA_1_in (List.mem_of_getElem? (i := 21) rfl)
theorem hw_72 : Cond.instanceMethod y_B_wayAt ∈ wAll := wA_1_in (List.mem_of_getElem? (i := 22) rfl)
theorem hw_73 : Cond.selects "AdviceWeaver$Body" y_B_wayAt y_B_wayAt ∈ wAll := wA_1_in (List.mem_of_getElem? (i := 23) rfl)
theorem hw_74 : Cond.code y_B_wayAt b_B_wayAt 3 (some .int) ∈ wAll := wA_1_in (List.mem_of_getElem? (i := 24) rfl)
theorem hw_75 : Cond.methodLink "AdviceWeaver$Body" 83 y_B_begins ∈ wAll := wA_1_in (List.mem_of_getElem? (i := 25) rfl)
theorem hw_76 : Cond.instanceMethod y_B_begins ∈ wAll := wA_1_in (List.mem_of_getElem? (i := 26) rfl)
theorem hw_77 : Cond.selects "AdviceWeaver$Body" y_B_begins y_B_begins ∈ wAll := wA_1_in (List.mem_of_getElem? (i := 27) rfl)
theorem hw_78 : Cond.code y_B_begins b_B_begins 2 (some .boolean) ∈ wAll := wA_1_in (List.mem_of_getElem? (i := 28) rfl)
theorem hw_79 : Cond.methodLink "AdviceWeaver$Body" 95 y_OP_isShortWay ∈ wAll := wA_1_in (List.mem_of_getElem? (i := 29) rfl)
theorem hw_80 : Cond.static y_OP_isShortWay ∈ wAll := wA_1_in (List.mem_of_getElem? (i := 30) rfl)
theorem hw_81 : Cond.code y_OP_isShortWay b_OP_isShortWay 1 (some .boolean) ∈ wAll := wA_1_in (List.mem_of_getElem? (i := 31) rfl)
theorem hw_82 : Cond.methodLink "AdviceWeaver$Body" 79 y_B_findInstructions ∈ wAll := wA_1_in (List.mem_of_getElem? (i := 32) rfl)
theorem hw_83 : Cond.instanceMethod y_B_findInstructions ∈ wAll := wA_1_in (List.mem_of_getElem? (i := 33) rfl)
theorem hw_84 : Cond.selects "AdviceWeaver$Body" y_B_findInstructions y_B_findInstructions ∈ wAll := wA_1_in (List.mem_of_getElem? (i := 34) rfl)
theorem hw_85 : Cond.code y_B_findInstructions b_B_findInstructions 3 (some .boolean) ∈ wAll := wA_1_in (List.mem_of_getElem? (i := 35) rfl)
theorem hw_86 : Cond.methodLink "AdviceWeaver$Body" 86 y_B_numbersHold ∈ wAll := wA_1_in (List.mem_of_getElem? (i := 36) rfl)
theorem hw_87 : Cond.instanceMethod y_B_numbersHold ∈ wAll := wA_1_in (List.mem_of_getElem? (i := 37) rfl)
theorem hw_88 : Cond.selects "AdviceWeaver$Body" y_B_numbersHold y_B_numbersHold ∈ wAll := wA_1_in (List.mem_of_getElem? (i := 38) rfl)
theorem hw_89 : Cond.code y_B_numbersHold b_B_numbersHold 5 (some .boolean) ∈ wAll := wA_1_in (List.mem_of_getElem? (i := 39) rfl)
theorem hw_90 : Cond.methodLink "AdviceWeaver$Body" 55 y_B_part ∈ wAll := wA_1_in (List.mem_of_getElem? (i := 40) rfl)
theorem hw_91 : Cond.instanceMethod y_B_part ∈ wAll := wA_1_in (List.mem_of_getElem? (i := 41) rfl)
theorem hw_92 : Cond.selects "AdviceWeaver$Body" y_B_part y_B_part ∈ wAll := wA_1_in (List.mem_of_getElem? (i := 42) rfl)
theorem hw_93 : Cond.code y_B_part b_B_part 3 (some .int) ∈ wAll := wA_1_in (List.mem_of_getElem? (i := 43) rfl)
theorem hw_94 : Cond.methodLink "AdviceWeaver$Flow" 96 y_B_begins ∈ wAll := wA_1_in (List.mem_of_getElem? (i := 44) rfl)
theorem hw_95 : Cond.methodLink "AdviceWeaver$Flow" 39 y_B_isReached ∈ wAll := wA_1_in (List.mem_of_getElem? (i := 45) rfl)
theorem hw_96 : Cond.instanceMethod y_B_isReached ∈ wAll := wA_1_in (List.mem_of_getElem? (i := 46) rfl)
theorem hw_97 : Cond.selects "AdviceWeaver$Body" y_B_isReached y_B_isReached ∈ wAll := wA_1_in (List.mem_of_getElem? (i := 47) rfl)
theorem hw_98 : Cond.code y_B_isReached b_B_isReached 2 (some .boolean) ∈ wAll := wA_1_in (List.mem_of_getElem? (i := 48) rfl)
theorem hw_99 : Cond.fieldLink "AdviceWeaver$Flow" 50 "AdviceWeaver$Body" "depths" "[I" ∈ wAll := wA_1_in (List.mem_of_getElem? (i := 49) rfl)
theorem hw_100 : Cond.fieldLink "AdviceWeaver$Flow" 9 "AdviceWeaver$Flow" "sets" "[I" ∈ wAll := wA_2_in (List.mem_of_getElem? (i := 0) rfl)
theorem hw_101 : Cond.fieldLink "AdviceWeaver$Flow" 21 "AdviceWeaver$Flow" "changed" "Z" ∈ wAll := wA_2_in (List.mem_of_getElem? (i := 1) rfl)
theorem hw_102 : Cond.fieldLink "AdviceWeaver$Flow" 25 "AdviceWeaver$Flow" "sound" "Z" ∈ wAll := wA_2_in (List.mem_of_getElem? (i := 2) rfl)
theorem hw_103 : Cond.fieldLink "AdviceWeaver$Op" 15 "AdviceWeaver$Op" "TAKES" "[I" ∈ wAll := wA_2_in (List.mem_of_getElem? (i := 3) rfl)
theorem hw_104 : Cond.fieldLink "AdviceWeaver$Op" 18 "AdviceWeaver$Op" "PUTS" "[I" ∈ wAll := wA_2_in (List.mem_of_getElem? (i := 4) rfl)
theorem hw_105 : Cond.methodLink "AdviceWeaver$Flow" 59 y_B_byteAt ∈ wAll := wA_2_in (List.mem_of_getElem? (i := 5) rfl)
theorem hw_106 : Cond.methodLink "AdviceWeaver$Flow" 65 y_OP_takes ∈ wAll := wA_2_in (List.mem_of_getElem? (i := 6) rfl)
theorem hw_107 : Cond.static y_OP_takes ∈ wAll := wA_2_in (List.mem_of_getElem? (i := 7) rfl)
theorem hw_108 : Cond.code y_OP_takes b_OP_takes 1 (some .int) ∈ wAll := wA_2_in (List.mem_of_getElem? (i := 8) rfl)
theorem hw_109 : Cond.fieldLink "AdviceWeaver$Flow" 28 "AdviceWeaver$Body" "args" "I" ∈ wAll := wA_2_in (List.mem_of_getElem? (i := 9) rfl)
theorem hw_110 : Cond.methodLink "AdviceWeaver$Flow" 68 y_OP_puts ∈ wAll := wA_2_in (List.mem_of_getElem? (i := 10) rfl)
theorem hw_111 : Cond.static y_OP_puts ∈ wAll := wA_2_in (List.mem_of_getElem? (i := 11) rfl)
theorem hw_112 : Cond.code y_OP_puts b_OP_puts 1 (some .int) ∈ wAll := wA_2_in (List.mem_of_getElem? (i := 12) rfl)
theorem hw_113 : Cond.fieldLink "AdviceWeaver$Flow" 71 "AdviceWeaver$Body" "stack" "I" ∈ wAll := wA_2_in (List.mem_of_getElem? (i := 13) rfl)
theorem hw_114 : Cond.methodLink "AdviceWeaver$Flow" 74 y_OP_goesOn ∈ wAll := wA_2_in (List.mem_of_getElem? (i := 14) rfl)
theorem hw_115 : Cond.static y_OP_goesOn ∈ wAll := wA_2_in (List.mem_of_getElem? (i := 15) rfl)
theorem hw_116 : Cond.code y_OP_goesOn b_OP_goesOn 1 (some .boolean) ∈ wAll := wA_2_in (List.mem_of_getElem? (i := 16) rfl)
theorem hw_117 : Cond.methodLink "AdviceWeaver$Flow" 77 y_OP_size ∈ wAll := wA_2_in (List.mem_of_getElem? (i := 17) rfl)
theorem hw_118 : Cond.methodLink "AdviceWeaver$Flow" 32 y_FL_arrive ∈ wAll := wA_2_in (List.mem_of_getElem? (i := 18) rfl)
theorem hw_119 : Cond.instanceMethod y_FL_arrive ∈ wAll := wA_2_in (List.mem_of_getElem? (i := 19) rfl)
theorem hw_120 : Cond.selects "AdviceWeaver$Flow" y_FL_arrive y_FL_arrive ∈ wAll := wA_2_in (List.mem_of_getElem? (i := 20) rfl)
theorem hw_121 : Cond.initialized "AdviceWeaver$Flow" ∈ wAll := wA_2_in (List.mem_of_getElem? (i := 21) rfl)
theorem hw_122 : Cond.code y_FL_arrive b_FL_arrive 5 none ∈ wAll := wA_2_in (List.mem_of_getElem? (i := 22) rfl)
theorem hw_123 : Cond.methodLink "AdviceWeaver$Flow" 80 y_OP_isBranch ∈ wAll := wA_2_in (List.mem_of_getElem? (i := 23) rfl)
theorem hw_124 : Cond.methodLink "AdviceWeaver$Flow" 83 y_B_wayAt ∈ wAll := wA_2_in (List.mem_of_getElem? (i := 24) rfl)
theorem hw_125 : Cond.fieldLink "AdviceWeaver$Flow" 86 "AdviceWeaver$Body" "handlers" "I" ∈ wAll := wA_2_in (List.mem_of_getElem? (i := 25) rfl)
theorem hw_126 : Cond.methodLink "AdviceWeaver$Flow" 89 y_B_covers ∈ wAll := wA_2_in (List.mem_of_getElem? (i := 26) rfl)
theorem hw_127 : Cond.instanceMethod y_B_covers ∈ wAll := wA_2_in (List.mem_of_getElem? (i := 27) rfl)
theorem hw_128 : Cond.selects "AdviceWeaver$Body" y_B_covers y_B_covers ∈ wAll := wA_2_in (List.mem_of_getElem? (i := 28) rfl)
theorem hw_129 : Cond.code y_B_covers b_B_covers 4 (some .boolean) ∈ wAll := wA_2_in (List.mem_of_getElem? (i := 29) rfl)
theorem hw_130 : Cond.methodLink "AdviceWeaver$Flow" 93 y_B_part ∈ wAll := wA_2_in (List.mem_of_getElem? (i := 30) rfl)
theorem hw_131 : Cond.methodLink "AdviceWeaver$Flow" 15 y_B_findInstructions ∈ wAll := wA_2_in (List.mem_of_getElem? (i := 31) rfl)
theorem hw_132 : Cond.fieldLink "AdviceWeaver$Flow" 36 "AdviceWeaver$Body" "length" "I" ∈ wAll := wA_2_in (List.mem_of_getElem? (i := 32) rfl)
theorem hw_133 : Cond.methodLink "AdviceWeaver$Flow" 43 y_FL_leave ∈ wAll := wA_2_in (List.mem_of_getElem? (i := 33) rfl)
theorem hw_134 : Cond.instanceMethod y_FL_leave ∈ wAll := wA_2_in (List.mem_of_getElem? (i := 34) rfl)
theorem hw_135 : Cond.selects "AdviceWeaver$Flow" y_FL_leave y_FL_leave ∈ wAll := wA_2_in (List.mem_of_getElem? (i := 35) rfl)
theorem hw_136 : Cond.code y_FL_leave b_FL_leave 13 none ∈ wAll := wA_2_in (List.mem_of_getElem? (i := 36) rfl)
theorem hw_137 : Cond.fieldLink "AdviceWeaver$Flow" 47 "AdviceWeaver$Body" "greatest" "I" ∈ wAll := wA_2_in (List.mem_of_getElem? (i := 37) rfl)
theorem hw_138 : Cond.methodLink "AdviceWeaver$Flow" 53 Lib.Math.max.name ∈ wAll := wA_2_in (List.mem_of_getElem? (i := 38) rfl)
theorem hw_139 : Cond.static Lib.Math.max.name ∈ wAll := wA_2_in (List.mem_of_getElem? (i := 39) rfl)
theorem hw_140 : Cond.initialized "java/lang/Math" ∈ wAll := wA_2_in (List.mem_of_getElem? (i := 40) rfl)
theorem hw_141 : Cond.code Lib.Math.max.name Lib.Math.max.code 2 (some .int) ∈ wAll := wA_2_in (List.mem_of_getElem? (i := 41) rfl)
theorem hw_142 : Cond.fieldLink "AdviceWeaver$Body" 25 "AdviceWeaver$Body" "name" "I" ∈ wAll := wA_2_in (List.mem_of_getElem? (i := 42) rfl)
theorem hw_143 : Cond.fieldLink "AdviceWeaver$Body" 28 "AdviceWeaver$Body" "args" "I" ∈ wAll := wA_2_in (List.mem_of_getElem? (i := 43) rfl)
theorem hw_144 : Cond.fieldLink "AdviceWeaver$Body" 34 "AdviceWeaver$Body" "stack" "I" ∈ wAll := wA_2_in (List.mem_of_getElem? (i := 44) rfl)
theorem hw_145 : Cond.fieldLink "AdviceWeaver$Body" 46 "AdviceWeaver$Body" "greatest" "I" ∈ wAll := wA_2_in (List.mem_of_getElem? (i := 45) rfl)
theorem hw_146 : Cond.methodLink "AdviceWeaver$Body" 49 arraycopyName ∈ wAll := wA_2_in (List.mem_of_getElem? (i := 46) rfl)
theorem hw_147 : Cond.native arraycopyName ∈ wAll := wA_2_in (List.mem_of_getElem? (i := 47) rfl)
theorem hw_148 : Cond.static arraycopyName ∈ wAll := wA_2_in (List.mem_of_getElem? (i := 48) rfl)
theorem hw_149 : Cond.initialized "java/lang/System" ∈ wAll := wA_2_in (List.mem_of_getElem? (i := 49) rfl)
theorem hw_150 : Cond.fieldLink "AdviceWeaver" 38 "AdviceWeaver" "failures" "[Z" ∈ wAll := wA_3_in (List.mem_of_getElem? (i := 0) rfl)
theorem hw_151 : Cond.fieldLink "AdviceWeaver" 18 "AdviceWeaver" "freshBodies" "[LAdviceWeaver$Body;" ∈ wAll := wA_3_in (List.mem_of_getElem? (i := 1) rfl)
theorem hw_152 : Cond.methodLink "AdviceWeaver" 81 y_CF_readInto ∈ wAll := wA_3_in (List.mem_of_getElem? (i := 2) rfl)
theorem hw_153 : Cond.instanceMethod y_CF_readInto ∈ wAll := wA_3_in (List.mem_of_getElem? (i := 3) rfl)
theorem hw_154 : Cond.selects "AdviceWeaver$ClassFile" y_CF_readInto y_CF_readInto ∈ wAll := wA_3_in (List.mem_of_getElem? (i := 4) rfl)
theorem hw_155 : Cond.code y_CF_readInto b_CF_readInto 4 (some .int) ∈ wAll := wA_3_in (List.mem_of_getElem? (i := 5) rfl)
theorem hw_156 : Cond.methodLink "AdviceWeaver" 85 y_B_isWellFormed ∈ wAll := wA_3_in (List.mem_of_getElem? (i := 6) rfl)
theorem hw_157 : Cond.instanceMethod y_B_isWellFormed ∈ wAll := wA_3_in (List.mem_of_getElem? (i := 7) rfl)
theorem hw_158 : Cond.selects "AdviceWeaver$Body" y_B_isWellFormed y_B_isWellFormed ∈ wAll := wA_3_in (List.mem_of_getElem? (i := 8) rfl)
theorem hw_159 : Cond.code y_B_isWellFormed b_B_isWellFormed 5 (some .boolean) ∈ wAll := wA_3_in (List.mem_of_getElem? (i := 9) rfl)
theorem hw_160 : Cond.fieldLink "AdviceWeaver" 45 "AdviceWeaver" "flow" "LAdviceWeaver$Flow;" ∈ wAll := wA_3_in (List.mem_of_getElem? (i := 10) rfl)
theorem hw_161 : Cond.methodLink "AdviceWeaver" 89 y_FL_explore ∈ wAll := wA_3_in (List.mem_of_getElem? (i := 11) rfl)
theorem hw_162 : Cond.instanceMethod y_FL_explore ∈ wAll := wA_3_in (List.mem_of_getElem? (i := 12) rfl)
theorem hw_163 : Cond.selects "AdviceWeaver$Flow" y_FL_explore y_FL_explore ∈ wAll := wA_3_in (List.mem_of_getElem? (i := 13) rfl)
theorem hw_164 : Cond.code y_FL_explore b_FL_explore 5 (some .boolean) ∈ wAll := wA_3_in (List.mem_of_getElem? (i := 14) rfl)
theorem hw_165 : Cond.fieldLink "AdviceWeaver" 22 "AdviceWeaver" "loadedBodies" "[LAdviceWeaver$Body;" ∈ wAll := wA_3_in (List.mem_of_getElem? (i := 15) rfl)
theorem hw_166 : Cond.methodLink "AdviceWeaver" 93 y_B_become ∈ wAll := wA_3_in (List.mem_of_getElem? (i := 16) rfl)
theorem hw_167 : Cond.instanceMethod y_B_become ∈ wAll := wA_3_in (List.mem_of_getElem? (i := 17) rfl)
theorem hw_168 : Cond.selects "AdviceWeaver$Body" y_B_become y_B_become ∈ wAll := wA_3_in (List.mem_of_getElem? (i := 18) rfl)
theorem hw_169 : Cond.code y_B_become b_B_become 2 none ∈ wAll := wA_3_in (List.mem_of_getElem? (i := 19) rfl)
theorem hw_170 : Cond.fieldLink "AdviceWeaver" 63 "AdviceWeaver" "methods" "I" ∈ wAll := wA_3_in (List.mem_of_getElem? (i := 20) rfl)
theorem hw_171 : Cond.fieldLink "AdviceWeaver" 70 "AdviceWeaver" "isWoven" "Z" ∈ wAll := wA_3_in (List.mem_of_getElem? (i := 21) rfl)
theorem hw_172 : Cond.methodLink "AdviceWeaver" 97 y_AW_forgetFailures ∈ wAll := wA_3_in (List.mem_of_getElem? (i := 22) rfl)
theorem hw_173 : Cond.instanceMethod y_AW_forgetFailures ∈ wAll := wA_3_in (List.mem_of_getElem? (i := 23) rfl)
theorem hw_174 : Cond.selects "AdviceWeaver" y_AW_forgetFailures y_AW_forgetFailures ∈ wAll := wA_3_in (List.mem_of_getElem? (i := 24) rfl)
theorem hw_175 : Cond.initialized "AdviceWeaver" ∈ wAll := wA_3_in (List.mem_of_getElem? (i := 25) rfl)
theorem hw_176 : Cond.code y_AW_forgetFailures b_AW_forgetFailures 2 none ∈ wAll := wA_3_in (List.mem_of_getElem? (i := 26) rfl)
theorem hw_177 : Cond.fieldLink "AdviceWeaver$Transformer" 7 "AdviceWeaver$Transformer" "cover" "Z" ∈ wAll := wA_3_in (List.mem_of_getElem? (i := 27) rfl)
theorem hw_178 : Cond.fieldLink "AdviceWeaver$Transformer" 13 "AdviceWeaver$Transformer" "letter" "I" ∈ wAll := wA_3_in (List.mem_of_getElem? (i := 28) rfl)
theorem hw_179 : Cond.fieldLink "AdviceWeaver$Transformer" 17 "AdviceWeaver$Transformer" "args" "I" ∈ wAll := wA_3_in (List.mem_of_getElem? (i := 29) rfl)
theorem hw_180 : Cond.fieldLink "AdviceWeaver" 67 "AdviceWeaver" "transformers" "I" ∈ wAll := wA_3_in (List.mem_of_getElem? (i := 30) rfl)
theorem hw_181 : Cond.fieldLink "AdviceWeaver" 33 "AdviceWeaver" "chain" "[LAdviceWeaver$Transformer;" ∈ wAll := wA_3_in (List.mem_of_getElem? (i := 31) rfl)
theorem hw_182 : Cond.methodLink "AdviceWeaver" 100 y_TR_set ∈ wAll := wA_3_in (List.mem_of_getElem? (i := 32) rfl)
theorem hw_183 : Cond.instanceMethod y_TR_set ∈ wAll := wA_3_in (List.mem_of_getElem? (i := 33) rfl)
theorem hw_184 : Cond.selects "AdviceWeaver$Transformer" y_TR_set y_TR_set ∈ wAll := wA_3_in (List.mem_of_getElem? (i := 34) rfl)
theorem hw_185 : Cond.initialized "AdviceWeaver$Transformer" ∈ wAll := wA_3_in (List.mem_of_getElem? (i := 35) rfl)
theorem hw_186 : Cond.code y_TR_set b_TR_set 4 none ∈ wAll := wA_3_in (List.mem_of_getElem? (i := 36) rfl)
theorem hw_187 : Cond.fieldLink "AdviceWeaver$Transformer" 20 "AdviceWeaver$Body" "name" "I" ∈ wAll := wA_3_in (List.mem_of_getElem? (i := 37) rfl)
theorem hw_188 : Cond.fieldLink "AdviceWeaver$Transformer" 25 "AdviceWeaver$Body" "args" "I" ∈ wAll := wA_3_in (List.mem_of_getElem? (i := 38) rfl)
theorem hw_189 : Cond.fieldLink "AdviceWeaver$Loom" 36 "AdviceWeaver$Loom" "leaders" "[I" ∈ wAll := wA_3_in (List.mem_of_getElem? (i := 39) rfl)
theorem hw_190 : Cond.methodLink "AdviceWeaver$Loom" 100 y_AR_fill ∈ wAll := wA_3_in (List.mem_of_getElem? (i := 40) rfl)
theorem hw_191 : Cond.static y_AR_fill ∈ wAll := wA_3_in (List.mem_of_getElem? (i := 41) rfl)
theorem hw_192 : Cond.initialized "java/util/Arrays" ∈ wAll := wA_3_in (List.mem_of_getElem? (i := 42) rfl)
theorem hw_193 : Cond.code y_AR_fill b_AR_fill 4 none ∈ wAll := wA_3_in (List.mem_of_getElem? (i := 43) rfl)
theorem hw_194 : Cond.fieldLink "AdviceWeaver$Loom" 14 "AdviceWeaver$Loom" "old" "LAdviceWeaver$Body;" ∈ wAll := wA_3_in (List.mem_of_getElem? (i := 44) rfl)
theorem hw_195 : Cond.fieldLink "AdviceWeaver$Loom" 66 "AdviceWeaver$Body" "length" "I" ∈ wAll := wA_3_in (List.mem_of_getElem? (i := 45) rfl)
theorem hw_196 : Cond.methodLink "AdviceWeaver$Loom" 87 y_B_begins ∈ wAll := wA_3_in (List.mem_of_getElem? (i := 46) rfl)
theorem hw_197 : Cond.methodLink "AdviceWeaver$Loom" 91 y_B_byteAt ∈ wAll := wA_3_in (List.mem_of_getElem? (i := 47) rfl)
theorem hw_198 : Cond.methodLink "AdviceWeaver$Loom" 106 y_OP_isBranch ∈ wAll := wA_3_in (List.mem_of_getElem? (i := 48) rfl)
theorem hw_199 : Cond.methodLink "AdviceWeaver$Loom" 109 y_B_wayAt ∈ wAll := wA_3_in (List.mem_of_getElem? (i := 49) rfl)
theorem hw_200 : Cond.methodLink "AdviceWeaver$Loom" 112 y_LM_addLeader ∈ wAll := wA_4_in (List.mem_of_getElem? (i := 0) rfl)
theorem hw_201 : Cond.instanceMethod y_LM_addLeader ∈ wAll := wA_4_in (List.mem_of_getElem? (i := 1) rfl)
theorem hw_202 : Cond.selects "AdviceWeaver$Loom" y_LM_addLeader y_LM_addLeader ∈ wAll := wA_4_in (List.mem_of_getElem? (i := 2) rfl)
theorem hw_203 : Cond.initialized "AdviceWeaver$Loom" ∈ wAll := wA_4_in (List.mem_of_getElem? (i := 3) rfl)
theorem hw_204 : Cond.code y_LM_addLeader b_LM_addLeader 2 none ∈ wAll := wA_4_in (List.mem_of_getElem? (i := 4) rfl)
theorem hw_205 : Cond.methodLink "AdviceWeaver$Loom" 115 y_OP_goesOn ∈ wAll := wA_4_in (List.mem_of_getElem? (i := 5) rfl)
theorem hw_206 : Cond.methodLink "AdviceWeaver$Loom" 118 y_OP_size ∈ wAll := wA_4_in (List.mem_of_getElem? (i := 6) rfl)
theorem hw_207 : Cond.fieldLink "AdviceWeaver$Loom" 57 "AdviceWeaver$Body" "handlers" "I" ∈ wAll := wA_4_in (List.mem_of_getElem? (i := 7) rfl)
theorem hw_208 : Cond.methodLink "AdviceWeaver$Loom" 121 y_B_part ∈ wAll := wA_4_in (List.mem_of_getElem? (i := 8) rfl)
theorem hw_209 : Cond.fieldLink "AdviceWeaver$Loom" 43 "AdviceWeaver$Loom" "items" "I" ∈ wAll := wA_4_in (List.mem_of_getElem? (i := 9) rfl)
theorem hw_210 : Cond.fieldLink "AdviceWeaver$Loom" 20 "AdviceWeaver$Loom" "ops" "[I" ∈ wAll := wA_4_in (List.mem_of_getElem? (i := 10) rfl)
theorem hw_211 : Cond.fieldLink "AdviceWeaver$Loom" 24 "AdviceWeaver$Loom" "numbers" "[I" ∈ wAll := wA_4_in (List.mem_of_getElem? (i := 11) rfl)
theorem hw_212 : Cond.fieldLink "AdviceWeaver$Loom" 27 "AdviceWeaver$Loom" "sources" "[I" ∈ wAll := wA_4_in (List.mem_of_getElem? (i := 12) rfl)
theorem hw_213 : Cond.methodLink "AdviceWeaver$Loom" 83 y_LM_addItem ∈ wAll := wA_4_in (List.mem_of_getElem? (i := 13) rfl)
theorem hw_214 : Cond.instanceMethod y_LM_addItem ∈ wAll := wA_4_in (List.mem_of_getElem? (i := 14) rfl)
theorem hw_215 : Cond.selects "AdviceWeaver$Loom" y_LM_addItem y_LM_addItem ∈ wAll := wA_4_in (List.mem_of_getElem? (i := 15) rfl)
theorem hw_216 : Cond.code y_LM_addItem b_LM_addItem 4 none ∈ wAll := wA_4_in (List.mem_of_getElem? (i := 16) rfl)
theorem hw_217 : Cond.methodLink "AdviceWeaver$Loom" 97 y_LM_findLeaders ∈ wAll := wA_4_in (List.mem_of_getElem? (i := 17) rfl)
theorem hw_218 : Cond.instanceMethod y_LM_findLeaders ∈ wAll := wA_4_in (List.mem_of_getElem? (i := 18) rfl)
theorem hw_219 : Cond.selects "AdviceWeaver$Loom" y_LM_findLeaders y_LM_findLeaders ∈ wAll := wA_4_in (List.mem_of_getElem? (i := 19) rfl)
theorem hw_220 : Cond.code y_LM_findLeaders b_LM_findLeaders 4 none ∈ wAll := wA_4_in (List.mem_of_getElem? (i := 20) rfl)
theorem hw_221 : Cond.fieldLink "AdviceWeaver$Loom" 33 "AdviceWeaver$Loom" "leads" "[I" ∈ wAll := wA_4_in (List.mem_of_getElem? (i := 21) rfl)
theorem hw_222 : Cond.methodLink "AdviceWeaver$Loom" 94 y_LM_addOldItem ∈ wAll := wA_4_in (List.mem_of_getElem? (i := 22) rfl)
theorem hw_223 : Cond.instanceMethod y_LM_addOldItem ∈ wAll := wA_4_in (List.mem_of_getElem? (i := 23) rfl)
theorem hw_224 : Cond.selects "AdviceWeaver$Loom" y_LM_addOldItem y_LM_addOldItem ∈ wAll := wA_4_in (List.mem_of_getElem? (i := 24) rfl)
theorem hw_225 : Cond.code y_LM_addOldItem b_LM_addOldItem 3 none ∈ wAll := wA_4_in (List.mem_of_getElem? (i := 25) rfl)
theorem hw_226 : Cond.fieldLink "AdviceWeaver$Loom" 30 "AdviceWeaver$Loom" "places" "[I" ∈ wAll := wA_4_in (List.mem_of_getElem? (i := 26) rfl)
theorem hw_227 : Cond.methodLink "AdviceWeaver$Loom" 69 y_LM_newPlace ∈ wAll := wA_4_in (List.mem_of_getElem? (i := 27) rfl)
theorem hw_228 : Cond.instanceMethod y_LM_newPlace ∈ wAll := wA_4_in (List.mem_of_getElem? (i := 28) rfl)
theorem hw_229 : Cond.selects "AdviceWeaver$Loom" y_LM_newPlace y_LM_newPlace ∈ wAll := wA_4_in (List.mem_of_getElem? (i := 29) rfl)
theorem hw_230 : Cond.code y_LM_newPlace b_LM_newPlace 2 (some .int) ∈ wAll := wA_4_in (List.mem_of_getElem? (i := 30) rfl)
theorem hw_231 : Cond.methodLink "AdviceWeaver$Loom" 131 y_OP_isShortBranch ∈ wAll := wA_4_in (List.mem_of_getElem? (i := 31) rfl)
theorem hw_232 : Cond.methodLink "AdviceWeaver$Loom" 134 y_LM_newWay ∈ wAll := wA_4_in (List.mem_of_getElem? (i := 32) rfl)
theorem hw_233 : Cond.instanceMethod y_LM_newWay ∈ wAll := wA_4_in (List.mem_of_getElem? (i := 33) rfl)
theorem hw_234 : Cond.selects "AdviceWeaver$Loom" y_LM_newWay y_LM_newWay ∈ wAll := wA_4_in (List.mem_of_getElem? (i := 34) rfl)
theorem hw_235 : Cond.code y_LM_newWay b_LM_newWay 2 (some .int) ∈ wAll := wA_4_in (List.mem_of_getElem? (i := 35) rfl)
theorem hw_236 : Cond.methodLink "AdviceWeaver$Loom" 137 y_OP_isShortWay ∈ wAll := wA_4_in (List.mem_of_getElem? (i := 36) rfl)
theorem hw_237 : Cond.methodLink "AdviceWeaver$Loom" 125 y_LM_countPlaces ∈ wAll := wA_4_in (List.mem_of_getElem? (i := 37) rfl)
theorem hw_238 : Cond.instanceMethod y_LM_countPlaces ∈ wAll := wA_4_in (List.mem_of_getElem? (i := 38) rfl)
theorem hw_239 : Cond.selects "AdviceWeaver$Loom" y_LM_countPlaces y_LM_countPlaces ∈ wAll := wA_4_in (List.mem_of_getElem? (i := 39) rfl)
theorem hw_240 : Cond.code y_LM_countPlaces b_LM_countPlaces 2 none ∈ wAll := wA_4_in (List.mem_of_getElem? (i := 40) rfl)
theorem hw_241 : Cond.methodLink "AdviceWeaver$Loom" 128 y_LM_widenWhereNeeded ∈ wAll := wA_4_in (List.mem_of_getElem? (i := 41) rfl)
theorem hw_242 : Cond.instanceMethod y_LM_widenWhereNeeded ∈ wAll := wA_4_in (List.mem_of_getElem? (i := 42) rfl)
theorem hw_243 : Cond.selects "AdviceWeaver$Loom" y_LM_widenWhereNeeded y_LM_widenWhereNeeded ∈ wAll := wA_4_in (List.mem_of_getElem? (i := 43) rfl)
theorem hw_244 : Cond.code y_LM_widenWhereNeeded b_LM_widenWhereNeeded 3 (some .boolean) ∈ wAll := wA_4_in (List.mem_of_getElem? (i := 44) rfl)
theorem hw_245 : Cond.methodLink "AdviceWeaver$Loom" 153 y_OP_isWideBranch ∈ wAll := wA_4_in (List.mem_of_getElem? (i := 45) rfl)
theorem hw_246 : Cond.fieldLink "AdviceWeaver$Loom" 140 "AdviceWeaver$Body" "code" "[I" ∈ wAll := wA_4_in (List.mem_of_getElem? (i := 46) rfl)
theorem hw_247 : Cond.methodLink "AdviceWeaver$Loom" 150 y_LM_copyNumbers ∈ wAll := wA_4_in (List.mem_of_getElem? (i := 47) rfl)
theorem hw_248 : Cond.instanceMethod y_LM_copyNumbers ∈ wAll := wA_4_in (List.mem_of_getElem? (i := 48) rfl)
theorem hw_249 : Cond.selects "AdviceWeaver$Loom" y_LM_copyNumbers y_LM_copyNumbers ∈ wAll := wA_4_in (List.mem_of_getElem? (i := 49) rfl)
theorem hw_250 : Cond.code y_LM_copyNumbers b_LM_copyNumbers 4 none ∈ wAll := wA_5_in (List.mem_of_getElem? (i := 0) rfl)
theorem hw_251 : Cond.methodLink "AdviceWeaver$Loom" 147 y_LM_writeNumber ∈ wAll := wA_5_in (List.mem_of_getElem? (i := 1) rfl)
theorem hw_252 : Cond.instanceMethod y_LM_writeNumber ∈ wAll := wA_5_in (List.mem_of_getElem? (i := 2) rfl)
theorem hw_253 : Cond.selects "AdviceWeaver$Loom" y_LM_writeNumber y_LM_writeNumber ∈ wAll := wA_5_in (List.mem_of_getElem? (i := 3) rfl)
theorem hw_254 : Cond.code y_LM_writeNumber b_LM_writeNumber 3 none ∈ wAll := wA_5_in (List.mem_of_getElem? (i := 4) rfl)
theorem hw_255 : Cond.methodLink "AdviceWeaver$Loom" 143 y_LM_writeWay ∈ wAll := wA_5_in (List.mem_of_getElem? (i := 5) rfl)
theorem hw_256 : Cond.instanceMethod y_LM_writeWay ∈ wAll := wA_5_in (List.mem_of_getElem? (i := 6) rfl)
theorem hw_257 : Cond.selects "AdviceWeaver$Loom" y_LM_writeWay y_LM_writeWay ∈ wAll := wA_5_in (List.mem_of_getElem? (i := 7) rfl)
theorem hw_258 : Cond.code y_LM_writeWay b_LM_writeWay 5 none ∈ wAll := wA_5_in (List.mem_of_getElem? (i := 8) rfl)
theorem hw_259 : Cond.methodLink "AdviceWeaver$Loom" 73 y_B_addHandler ∈ wAll := wA_5_in (List.mem_of_getElem? (i := 9) rfl)
theorem hw_260 : Cond.methodLink "AdviceWeaver$Loom" 39 y_B_become ∈ wAll := wA_5_in (List.mem_of_getElem? (i := 10) rfl)
theorem hw_261 : Cond.methodLink "AdviceWeaver$Loom" 50 y_LM_planTrace ∈ wAll := wA_5_in (List.mem_of_getElem? (i := 11) rfl)
theorem hw_262 : Cond.instanceMethod y_LM_planTrace ∈ wAll := wA_5_in (List.mem_of_getElem? (i := 12) rfl)
theorem hw_263 : Cond.selects "AdviceWeaver$Loom" y_LM_planTrace y_LM_planTrace ∈ wAll := wA_5_in (List.mem_of_getElem? (i := 13) rfl)
theorem hw_264 : Cond.code y_LM_planTrace b_LM_planTrace 3 none ∈ wAll := wA_5_in (List.mem_of_getElem? (i := 14) rfl)
theorem hw_265 : Cond.methodLink "AdviceWeaver$Loom" 47 y_LM_planCover ∈ wAll := wA_5_in (List.mem_of_getElem? (i := 15) rfl)
theorem hw_266 : Cond.instanceMethod y_LM_planCover ∈ wAll := wA_5_in (List.mem_of_getElem? (i := 16) rfl)
theorem hw_267 : Cond.selects "AdviceWeaver$Loom" y_LM_planCover y_LM_planCover ∈ wAll := wA_5_in (List.mem_of_getElem? (i := 17) rfl)
theorem hw_268 : Cond.code y_LM_planCover b_LM_planCover 3 none ∈ wAll := wA_5_in (List.mem_of_getElem? (i := 18) rfl)
theorem hw_269 : Cond.methodLink "AdviceWeaver$Loom" 54 y_LM_layOut ∈ wAll := wA_5_in (List.mem_of_getElem? (i := 19) rfl)
theorem hw_270 : Cond.instanceMethod y_LM_layOut ∈ wAll := wA_5_in (List.mem_of_getElem? (i := 20) rfl)
theorem hw_271 : Cond.selects "AdviceWeaver$Loom" y_LM_layOut y_LM_layOut ∈ wAll := wA_5_in (List.mem_of_getElem? (i := 21) rfl)
theorem hw_272 : Cond.code y_LM_layOut b_LM_layOut 2 none ∈ wAll := wA_5_in (List.mem_of_getElem? (i := 22) rfl)
theorem hw_273 : Cond.methodLink "AdviceWeaver$Loom" 60 y_LM_writeCode ∈ wAll := wA_5_in (List.mem_of_getElem? (i := 23) rfl)
theorem hw_274 : Cond.instanceMethod y_LM_writeCode ∈ wAll := wA_5_in (List.mem_of_getElem? (i := 24) rfl)
theorem hw_275 : Cond.selects "AdviceWeaver$Loom" y_LM_writeCode y_LM_writeCode ∈ wAll := wA_5_in (List.mem_of_getElem? (i := 25) rfl)
theorem hw_276 : Cond.code y_LM_writeCode b_LM_writeCode 3 none ∈ wAll := wA_5_in (List.mem_of_getElem? (i := 26) rfl)
theorem hw_277 : Cond.methodLink "AdviceWeaver$Loom" 63 y_LM_writeHandlers ∈ wAll := wA_5_in (List.mem_of_getElem? (i := 27) rfl)
theorem hw_278 : Cond.instanceMethod y_LM_writeHandlers ∈ wAll := wA_5_in (List.mem_of_getElem? (i := 28) rfl)
theorem hw_279 : Cond.selects "AdviceWeaver$Loom" y_LM_writeHandlers y_LM_writeHandlers ∈ wAll := wA_5_in (List.mem_of_getElem? (i := 29) rfl)
theorem hw_280 : Cond.code y_LM_writeHandlers b_LM_writeHandlers 5 none ∈ wAll := wA_5_in (List.mem_of_getElem? (i := 30) rfl)
theorem hw_281 : Cond.methodLink "AdviceWeaver$Loom" 77 y_B_findInstructions ∈ wAll := wA_5_in (List.mem_of_getElem? (i := 31) rfl)
theorem hw_282 : Cond.fieldLink "AdviceWeaver" 25 "AdviceWeaver" "wovenBodies" "[LAdviceWeaver$Body;" ∈ wAll := wA_5_in (List.mem_of_getElem? (i := 32) rfl)
theorem hw_283 : Cond.methodLink "AdviceWeaver" 157 y_TR_fits ∈ wAll := wA_5_in (List.mem_of_getElem? (i := 33) rfl)
theorem hw_284 : Cond.instanceMethod y_TR_fits ∈ wAll := wA_5_in (List.mem_of_getElem? (i := 34) rfl)
theorem hw_285 : Cond.selects "AdviceWeaver$Transformer" y_TR_fits y_TR_fits ∈ wAll := wA_5_in (List.mem_of_getElem? (i := 35) rfl)
theorem hw_286 : Cond.code y_TR_fits b_TR_fits 2 (some .boolean) ∈ wAll := wA_5_in (List.mem_of_getElem? (i := 36) rfl)
theorem hw_287 : Cond.fieldLink "AdviceWeaver" 52 "AdviceWeaver" "loom" "LAdviceWeaver$Loom;" ∈ wAll := wA_5_in (List.mem_of_getElem? (i := 37) rfl)
theorem hw_288 : Cond.fieldLink "AdviceWeaver" 161 "AdviceWeaver$Transformer" "cover" "Z" ∈ wAll := wA_5_in (List.mem_of_getElem? (i := 38) rfl)
theorem hw_289 : Cond.methodLink "AdviceWeaver" 164 y_LM_transform ∈ wAll := wA_5_in (List.mem_of_getElem? (i := 39) rfl)
theorem hw_290 : Cond.instanceMethod y_LM_transform ∈ wAll := wA_5_in (List.mem_of_getElem? (i := 40) rfl)
theorem hw_291 : Cond.selects "AdviceWeaver$Loom" y_LM_transform y_LM_transform ∈ wAll := wA_5_in (List.mem_of_getElem? (i := 41) rfl)
theorem hw_292 : Cond.code y_LM_transform b_LM_transform 6 (some .boolean) ∈ wAll := wA_5_in (List.mem_of_getElem? (i := 42) rfl)
theorem hw_293 : Cond.methodLink "AdviceWeaver" 104 y_AW_sendAlongChain ∈ wAll := wA_5_in (List.mem_of_getElem? (i := 43) rfl)
theorem hw_294 : Cond.instanceMethod y_AW_sendAlongChain ∈ wAll := wA_5_in (List.mem_of_getElem? (i := 44) rfl)
theorem hw_295 : Cond.selects "AdviceWeaver" y_AW_sendAlongChain y_AW_sendAlongChain ∈ wAll := wA_5_in (List.mem_of_getElem? (i := 45) rfl)
theorem hw_296 : Cond.code y_AW_sendAlongChain b_AW_sendAlongChain 4 (some .int) ∈ wAll := wA_5_in (List.mem_of_getElem? (i := 46) rfl)
theorem hw_297 : Cond.fieldLink "AdviceWeaver$Frame" 18 "AdviceWeaver$Frame" "method" "I" ∈ wAll := wA_5_in (List.mem_of_getElem? (i := 47) rfl)
theorem hw_298 : Cond.fieldLink "AdviceWeaver$Frame" 22 "AdviceWeaver$Frame" "place" "I" ∈ wAll := wA_5_in (List.mem_of_getElem? (i := 48) rfl)
theorem hw_299 : Cond.fieldLink "AdviceWeaver$Frame" 25 "AdviceWeaver$Frame" "height" "I" ∈ wAll := wA_5_in (List.mem_of_getElem? (i := 49) rfl)
theorem hw_300 : Cond.fieldLink "AdviceWeaver$Frame" 15 "AdviceWeaver$Frame" "locals" "[I" ∈ wAll := wA_6_in (List.mem_of_getElem? (i := 0) rfl)
theorem hw_301 : Cond.methodLink "AdviceWeaver$Frame" 28 y_AR_fill ∈ wAll := wA_6_in (List.mem_of_getElem? (i := 1) rfl)
theorem hw_302 : Cond.fieldLink "AdviceWeaver$Machine" 41 "AdviceWeaver$Machine" "outcome" "I" ∈ wAll := wA_6_in (List.mem_of_getElem? (i := 2) rfl)
theorem hw_303 : Cond.fieldLink "AdviceWeaver$Machine" 61 "AdviceWeaver$Machine" "value" "I" ∈ wAll := wA_6_in (List.mem_of_getElem? (i := 3) rfl)
theorem hw_304 : Cond.fieldLink "AdviceWeaver$Frame" 9 "AdviceWeaver$Frame" "stack" "[I" ∈ wAll := wA_6_in (List.mem_of_getElem? (i := 4) rfl)
theorem hw_305 : Cond.fieldLink "AdviceWeaver$Machine" 53 "AdviceWeaver$Machine" "open" "I" ∈ wAll := wA_6_in (List.mem_of_getElem? (i := 5) rfl)
theorem hw_306 : Cond.fieldLink "AdviceWeaver$Machine" 44 "AdviceWeaver$Body" "args" "I" ∈ wAll := wA_6_in (List.mem_of_getElem? (i := 6) rfl)
theorem hw_307 : Cond.methodLink "AdviceWeaver$Machine" 88 y_FR_pop ∈ wAll := wA_6_in (List.mem_of_getElem? (i := 7) rfl)
theorem hw_308 : Cond.instanceMethod y_FR_pop ∈ wAll := wA_6_in (List.mem_of_getElem? (i := 8) rfl)
theorem hw_309 : Cond.selects "AdviceWeaver$Frame" y_FR_pop y_FR_pop ∈ wAll := wA_6_in (List.mem_of_getElem? (i := 9) rfl)
theorem hw_310 : Cond.initialized "AdviceWeaver$Frame" ∈ wAll := wA_6_in (List.mem_of_getElem? (i := 10) rfl)
theorem hw_311 : Cond.code y_FR_pop b_FR_pop 1 (some .int) ∈ wAll := wA_6_in (List.mem_of_getElem? (i := 11) rfl)
theorem hw_312 : Cond.fieldLink "AdviceWeaver$Machine" 13 "AdviceWeaver$Machine" "frames" "[LAdviceWeaver$Frame;" ∈ wAll := wA_6_in (List.mem_of_getElem? (i := 12) rfl)
theorem hw_313 : Cond.methodLink "AdviceWeaver$Machine" 49 y_FR_begin ∈ wAll := wA_6_in (List.mem_of_getElem? (i := 13) rfl)
theorem hw_314 : Cond.instanceMethod y_FR_begin ∈ wAll := wA_6_in (List.mem_of_getElem? (i := 14) rfl)
theorem hw_315 : Cond.selects "AdviceWeaver$Frame" y_FR_begin y_FR_begin ∈ wAll := wA_6_in (List.mem_of_getElem? (i := 15) rfl)
theorem hw_316 : Cond.code y_FR_begin b_FR_begin 5 none ∈ wAll := wA_6_in (List.mem_of_getElem? (i := 16) rfl)
theorem hw_317 : Cond.methodLink "AdviceWeaver$Machine" 80 y_MC_end ∈ wAll := wA_6_in (List.mem_of_getElem? (i := 17) rfl)
theorem hw_318 : Cond.instanceMethod y_MC_end ∈ wAll := wA_6_in (List.mem_of_getElem? (i := 18) rfl)
theorem hw_319 : Cond.selects "AdviceWeaver$Machine" y_MC_end y_MC_end ∈ wAll := wA_6_in (List.mem_of_getElem? (i := 19) rfl)
theorem hw_320 : Cond.initialized "AdviceWeaver$Machine" ∈ wAll := wA_6_in (List.mem_of_getElem? (i := 20) rfl)
theorem hw_321 : Cond.code y_MC_end b_MC_end 3 none ∈ wAll := wA_6_in (List.mem_of_getElem? (i := 21) rfl)
theorem hw_322 : Cond.methodLink "AdviceWeaver$Machine" 108 y_FR_push ∈ wAll := wA_6_in (List.mem_of_getElem? (i := 22) rfl)
theorem hw_323 : Cond.instanceMethod y_FR_push ∈ wAll := wA_6_in (List.mem_of_getElem? (i := 23) rfl)
theorem hw_324 : Cond.selects "AdviceWeaver$Frame" y_FR_push y_FR_push ∈ wAll := wA_6_in (List.mem_of_getElem? (i := 24) rfl)
theorem hw_325 : Cond.code y_FR_push b_FR_push 2 none ∈ wAll := wA_6_in (List.mem_of_getElem? (i := 25) rfl)
theorem hw_326 : Cond.fieldLink "AdviceWeaver$Machine" 67 "AdviceWeaver$Frame" "place" "I" ∈ wAll := wA_6_in (List.mem_of_getElem? (i := 26) rfl)
theorem hw_327 : Cond.methodLink "AdviceWeaver$Machine" 111 y_OP_size ∈ wAll := wA_6_in (List.mem_of_getElem? (i := 27) rfl)
theorem hw_328 : Cond.methodLink "AdviceWeaver$Body" 59 y_B_covers ∈ wAll := wA_6_in (List.mem_of_getElem? (i := 28) rfl)
theorem hw_329 : Cond.methodLink "AdviceWeaver$Frame" 34 y_FR_push ∈ wAll := wA_6_in (List.mem_of_getElem? (i := 29) rfl)
theorem hw_330 : Cond.fieldLink "AdviceWeaver$Machine" 64 "AdviceWeaver$Frame" "method" "I" ∈ wAll := wA_6_in (List.mem_of_getElem? (i := 30) rfl)
theorem hw_331 : Cond.methodLink "AdviceWeaver$Machine" 114 y_B_catcherOf ∈ wAll := wA_6_in (List.mem_of_getElem? (i := 31) rfl)
theorem hw_332 : Cond.instanceMethod y_B_catcherOf ∈ wAll := wA_6_in (List.mem_of_getElem? (i := 32) rfl)
theorem hw_333 : Cond.selects "AdviceWeaver$Body" y_B_catcherOf y_B_catcherOf ∈ wAll := wA_6_in (List.mem_of_getElem? (i := 33) rfl)
theorem hw_334 : Cond.code y_B_catcherOf b_B_catcherOf 5 (some .int) ∈ wAll := wA_6_in (List.mem_of_getElem? (i := 34) rfl)
theorem hw_335 : Cond.methodLink "AdviceWeaver$Machine" 118 y_FR_goOnWith ∈ wAll := wA_6_in (List.mem_of_getElem? (i := 35) rfl)
theorem hw_336 : Cond.instanceMethod y_FR_goOnWith ∈ wAll := wA_6_in (List.mem_of_getElem? (i := 36) rfl)
theorem hw_337 : Cond.selects "AdviceWeaver$Frame" y_FR_goOnWith y_FR_goOnWith ∈ wAll := wA_6_in (List.mem_of_getElem? (i := 37) rfl)
theorem hw_338 : Cond.code y_FR_goOnWith b_FR_goOnWith 3 none ∈ wAll := wA_6_in (List.mem_of_getElem? (i := 38) rfl)
theorem hw_339 : Cond.methodLink "AdviceWeaver$Machine" 96 y_MC_raise ∈ wAll := wA_6_in (List.mem_of_getElem? (i := 39) rfl)
theorem hw_340 : Cond.instanceMethod y_MC_raise ∈ wAll := wA_6_in (List.mem_of_getElem? (i := 40) rfl)
theorem hw_341 : Cond.selects "AdviceWeaver$Machine" y_MC_raise y_MC_raise ∈ wAll := wA_6_in (List.mem_of_getElem? (i := 41) rfl)
theorem hw_342 : Cond.code y_MC_raise b_MC_raise 5 none ∈ wAll := wA_6_in (List.mem_of_getElem? (i := 42) rfl)
theorem hw_343 : Cond.fieldLink "AdviceWeaver$Machine" 32 "AdviceWeaver$Machine" "marks" "I" ∈ wAll := wA_6_in (List.mem_of_getElem? (i := 43) rfl)
theorem hw_344 : Cond.fieldLink "AdviceWeaver$Machine" 17 "AdviceWeaver$Machine" "keptMarks" "[I" ∈ wAll := wA_6_in (List.mem_of_getElem? (i := 44) rfl)
theorem hw_345 : Cond.fieldLink "AdviceWeaver$Machine" 21 "AdviceWeaver$Machine" "probes" "[I" ∈ wAll := wA_6_in (List.mem_of_getElem? (i := 45) rfl)
theorem hw_346 : Cond.methodLink "AdviceWeaver$Frame" 38 y_FR_pop ∈ wAll := wA_6_in (List.mem_of_getElem? (i := 46) rfl)
theorem hw_347 : Cond.methodLink "AdviceWeaver$Machine" 70 y_B_byteAt ∈ wAll := wA_6_in (List.mem_of_getElem? (i := 47) rfl)
theorem hw_348 : Cond.methodLink "AdviceWeaver$Machine" 141 y_FR_getLocal ∈ wAll := wA_6_in (List.mem_of_getElem? (i := 48) rfl)
theorem hw_349 : Cond.instanceMethod y_FR_getLocal ∈ wAll := wA_6_in (List.mem_of_getElem? (i := 49) rfl)
theorem hw_350 : Cond.selects "AdviceWeaver$Frame" y_FR_getLocal y_FR_getLocal ∈ wAll := wA_7_in (List.mem_of_getElem? (i := 0) rfl)
theorem hw_351 : Cond.code y_FR_getLocal b_FR_getLocal 2 (some .int) ∈ wAll := wA_7_in (List.mem_of_getElem? (i := 1) rfl)
theorem hw_352 : Cond.methodLink "AdviceWeaver$Machine" 138 y_OP_signedByte ∈ wAll := wA_7_in (List.mem_of_getElem? (i := 2) rfl)
theorem hw_353 : Cond.methodLink "AdviceWeaver$Machine" 144 y_FR_setLocal ∈ wAll := wA_7_in (List.mem_of_getElem? (i := 3) rfl)
theorem hw_354 : Cond.instanceMethod y_FR_setLocal ∈ wAll := wA_7_in (List.mem_of_getElem? (i := 4) rfl)
theorem hw_355 : Cond.selects "AdviceWeaver$Frame" y_FR_setLocal y_FR_setLocal ∈ wAll := wA_7_in (List.mem_of_getElem? (i := 5) rfl)
theorem hw_356 : Cond.code y_FR_setLocal b_FR_setLocal 3 none ∈ wAll := wA_7_in (List.mem_of_getElem? (i := 6) rfl)
theorem hw_357 : Cond.methodLink "AdviceWeaver$Machine" 147 y_FR_doubleTop ∈ wAll := wA_7_in (List.mem_of_getElem? (i := 7) rfl)
theorem hw_358 : Cond.instanceMethod y_FR_doubleTop ∈ wAll := wA_7_in (List.mem_of_getElem? (i := 8) rfl)
theorem hw_359 : Cond.selects "AdviceWeaver$Frame" y_FR_doubleTop y_FR_doubleTop ∈ wAll := wA_7_in (List.mem_of_getElem? (i := 9) rfl)
theorem hw_360 : Cond.code y_FR_doubleTop b_FR_doubleTop 2 none ∈ wAll := wA_7_in (List.mem_of_getElem? (i := 10) rfl)
theorem hw_361 : Cond.methodLink "AdviceWeaver$Machine" 131 y_MC_move ∈ wAll := wA_7_in (List.mem_of_getElem? (i := 11) rfl)
theorem hw_362 : Cond.instanceMethod y_MC_move ∈ wAll := wA_7_in (List.mem_of_getElem? (i := 12) rfl)
theorem hw_363 : Cond.selects "AdviceWeaver$Machine" y_MC_move y_MC_move ∈ wAll := wA_7_in (List.mem_of_getElem? (i := 13) rfl)
theorem hw_364 : Cond.code y_MC_move b_MC_move 5 none ∈ wAll := wA_7_in (List.mem_of_getElem? (i := 14) rfl)
theorem hw_365 : Cond.methodLink "AdviceWeaver$Machine" 128 y_MC_noteProbe ∈ wAll := wA_7_in (List.mem_of_getElem? (i := 15) rfl)
theorem hw_366 : Cond.instanceMethod y_MC_noteProbe ∈ wAll := wA_7_in (List.mem_of_getElem? (i := 16) rfl)
theorem hw_367 : Cond.selects "AdviceWeaver$Machine" y_MC_noteProbe y_MC_noteProbe ∈ wAll := wA_7_in (List.mem_of_getElem? (i := 17) rfl)
theorem hw_368 : Cond.code y_MC_noteProbe b_MC_noteProbe 3 none ∈ wAll := wA_7_in (List.mem_of_getElem? (i := 18) rfl)
theorem hw_369 : Cond.methodLink "AdviceWeaver$Machine" 125 y_MC_noteMark ∈ wAll := wA_7_in (List.mem_of_getElem? (i := 19) rfl)
theorem hw_370 : Cond.instanceMethod y_MC_noteMark ∈ wAll := wA_7_in (List.mem_of_getElem? (i := 20) rfl)
theorem hw_371 : Cond.selects "AdviceWeaver$Machine" y_MC_noteMark y_MC_noteMark ∈ wAll := wA_7_in (List.mem_of_getElem? (i := 21) rfl)
theorem hw_372 : Cond.code y_MC_noteMark b_MC_noteMark 3 none ∈ wAll := wA_7_in (List.mem_of_getElem? (i := 22) rfl)
theorem hw_373 : Cond.methodLink "AdviceWeaver$Machine" 121 y_MC_calculate ∈ wAll := wA_7_in (List.mem_of_getElem? (i := 23) rfl)
theorem hw_374 : Cond.instanceMethod y_MC_calculate ∈ wAll := wA_7_in (List.mem_of_getElem? (i := 24) rfl)
theorem hw_375 : Cond.selects "AdviceWeaver$Machine" y_MC_calculate y_MC_calculate ∈ wAll := wA_7_in (List.mem_of_getElem? (i := 25) rfl)
theorem hw_376 : Cond.code y_MC_calculate b_MC_calculate 5 none ∈ wAll := wA_7_in (List.mem_of_getElem? (i := 26) rfl)
theorem hw_377 : Cond.methodLink "AdviceWeaver$Machine" 135 y_B_wayAt ∈ wAll := wA_7_in (List.mem_of_getElem? (i := 27) rfl)
theorem hw_378 : Cond.methodLink "AdviceWeaver$Machine" 74 y_OP_isWovenOnly ∈ wAll := wA_7_in (List.mem_of_getElem? (i := 28) rfl)
theorem hw_379 : Cond.fieldLink "AdviceWeaver$Machine" 29 "AdviceWeaver$Machine" "used" "I" ∈ wAll := wA_7_in (List.mem_of_getElem? (i := 29) rfl)
theorem hw_380 : Cond.fieldLink "AdviceWeaver$Machine" 25 "AdviceWeaver$Machine" "fuel" "I" ∈ wAll := wA_7_in (List.mem_of_getElem? (i := 30) rfl)
theorem hw_381 : Cond.methodLink "AdviceWeaver$Machine" 104 y_MC_wayOn ∈ wAll := wA_7_in (List.mem_of_getElem? (i := 31) rfl)
theorem hw_382 : Cond.instanceMethod y_MC_wayOn ∈ wAll := wA_7_in (List.mem_of_getElem? (i := 32) rfl)
theorem hw_383 : Cond.selects "AdviceWeaver$Machine" y_MC_wayOn y_MC_wayOn ∈ wAll := wA_7_in (List.mem_of_getElem? (i := 33) rfl)
theorem hw_384 : Cond.code y_MC_wayOn b_MC_wayOn 5 (some .int) ∈ wAll := wA_7_in (List.mem_of_getElem? (i := 34) rfl)
theorem hw_385 : Cond.methodLink "AdviceWeaver$Machine" 92 y_MC_giveBack ∈ wAll := wA_7_in (List.mem_of_getElem? (i := 35) rfl)
theorem hw_386 : Cond.instanceMethod y_MC_giveBack ∈ wAll := wA_7_in (List.mem_of_getElem? (i := 36) rfl)
theorem hw_387 : Cond.selects "AdviceWeaver$Machine" y_MC_giveBack y_MC_giveBack ∈ wAll := wA_7_in (List.mem_of_getElem? (i := 37) rfl)
theorem hw_388 : Cond.code y_MC_giveBack b_MC_giveBack 3 none ∈ wAll := wA_7_in (List.mem_of_getElem? (i := 38) rfl)
theorem hw_389 : Cond.methodLink "AdviceWeaver$Machine" 84 y_MC_enter ∈ wAll := wA_7_in (List.mem_of_getElem? (i := 39) rfl)
theorem hw_390 : Cond.instanceMethod y_MC_enter ∈ wAll := wA_7_in (List.mem_of_getElem? (i := 40) rfl)
theorem hw_391 : Cond.selects "AdviceWeaver$Machine" y_MC_enter y_MC_enter ∈ wAll := wA_7_in (List.mem_of_getElem? (i := 41) rfl)
theorem hw_392 : Cond.code y_MC_enter b_MC_enter 7 none ∈ wAll := wA_7_in (List.mem_of_getElem? (i := 42) rfl)
theorem hw_393 : Cond.methodLink "AdviceWeaver$Machine" 100 y_MC_divide ∈ wAll := wA_7_in (List.mem_of_getElem? (i := 43) rfl)
theorem hw_394 : Cond.instanceMethod y_MC_divide ∈ wAll := wA_7_in (List.mem_of_getElem? (i := 44) rfl)
theorem hw_395 : Cond.selects "AdviceWeaver$Machine" y_MC_divide y_MC_divide ∈ wAll := wA_7_in (List.mem_of_getElem? (i := 45) rfl)
theorem hw_396 : Cond.code y_MC_divide b_MC_divide 5 none ∈ wAll := wA_7_in (List.mem_of_getElem? (i := 46) rfl)
theorem hw_397 : Cond.methodLink "AdviceWeaver$Machine" 35 y_AR_fill ∈ wAll := wA_7_in (List.mem_of_getElem? (i := 47) rfl)
theorem hw_398 : Cond.constant "AdviceWeaver$Machine" 56 1000000 ∈ wAll := wA_7_in (List.mem_of_getElem? (i := 48) rfl)
theorem hw_399 : Cond.methodLink "AdviceWeaver$Machine" 57 y_MC_advance ∈ wAll := wA_7_in (List.mem_of_getElem? (i := 49) rfl)
theorem hw_400 : Cond.instanceMethod y_MC_advance ∈ wAll := wA_8_in (List.mem_of_getElem? (i := 0) rfl)
theorem hw_401 : Cond.selects "AdviceWeaver$Machine" y_MC_advance y_MC_advance ∈ wAll := wA_8_in (List.mem_of_getElem? (i := 1) rfl)
theorem hw_402 : Cond.code y_MC_advance b_MC_advance 5 none ∈ wAll := wA_8_in (List.mem_of_getElem? (i := 2) rfl)
theorem hw_403 : Cond.methodLink "AdviceWeaver" 108 y_AW_bodyOf ∈ wAll := wA_8_in (List.mem_of_getElem? (i := 3) rfl)
theorem hw_404 : Cond.instanceMethod y_AW_bodyOf ∈ wAll := wA_8_in (List.mem_of_getElem? (i := 4) rfl)
theorem hw_405 : Cond.selects "AdviceWeaver" y_AW_bodyOf y_AW_bodyOf ∈ wAll := wA_8_in (List.mem_of_getElem? (i := 5) rfl)
theorem hw_406 : Cond.code y_AW_bodyOf b_AW_bodyOf 3 (some (.object "AdviceWeaver$Body")) ∈ wAll := wA_8_in (List.mem_of_getElem? (i := 6) rfl)
theorem hw_407 : Cond.fieldLink "AdviceWeaver" 59 "AdviceWeaver" "machine" "LAdviceWeaver$Machine;" ∈ wAll := wA_8_in (List.mem_of_getElem? (i := 7) rfl)
theorem hw_408 : Cond.methodLink "AdviceWeaver" 112 y_MC_execute ∈ wAll := wA_8_in (List.mem_of_getElem? (i := 8) rfl)
theorem hw_409 : Cond.instanceMethod y_MC_execute ∈ wAll := wA_8_in (List.mem_of_getElem? (i := 9) rfl)
theorem hw_410 : Cond.selects "AdviceWeaver$Machine" y_MC_execute y_MC_execute ∈ wAll := wA_8_in (List.mem_of_getElem? (i := 10) rfl)
theorem hw_411 : Cond.code y_MC_execute b_MC_execute 7 (some .int) ∈ wAll := wA_8_in (List.mem_of_getElem? (i := 11) rfl)
theorem hw_412 : Cond.fieldLink "AdviceWeaver" 116 "AdviceWeaver$Machine" "value" "I" ∈ wAll := wA_8_in (List.mem_of_getElem? (i := 12) rfl)
theorem hw_413 : Cond.fieldLink "AdviceWeaver" 119 "AdviceWeaver$Machine" "used" "I" ∈ wAll := wA_8_in (List.mem_of_getElem? (i := 13) rfl)
theorem hw_414 : Cond.fieldLink "AdviceWeaver" 122 "AdviceWeaver$Machine" "marks" "I" ∈ wAll := wA_8_in (List.mem_of_getElem? (i := 14) rfl)
theorem hw_415 : Cond.methodLink "AdviceWeaver" 125 y_MC_markAt ∈ wAll := wA_8_in (List.mem_of_getElem? (i := 15) rfl)
theorem hw_416 : Cond.instanceMethod y_MC_markAt ∈ wAll := wA_8_in (List.mem_of_getElem? (i := 16) rfl)
theorem hw_417 : Cond.selects "AdviceWeaver$Machine" y_MC_markAt y_MC_markAt ∈ wAll := wA_8_in (List.mem_of_getElem? (i := 17) rfl)
theorem hw_418 : Cond.code y_MC_markAt b_MC_markAt 2 (some .int) ∈ wAll := wA_8_in (List.mem_of_getElem? (i := 18) rfl)
theorem hw_419 : Cond.methodLink "AdviceWeaver" 128 y_MC_probesAt ∈ wAll := wA_8_in (List.mem_of_getElem? (i := 19) rfl)
theorem hw_420 : Cond.instanceMethod y_MC_probesAt ∈ wAll := wA_8_in (List.mem_of_getElem? (i := 20) rfl)
theorem hw_421 : Cond.selects "AdviceWeaver$Machine" y_MC_probesAt y_MC_probesAt ∈ wAll := wA_8_in (List.mem_of_getElem? (i := 21) rfl)
theorem hw_422 : Cond.code y_MC_probesAt b_MC_probesAt 3 (some .int) ∈ wAll := wA_8_in (List.mem_of_getElem? (i := 22) rfl)
theorem hw_423 : Cond.fieldLink "AdviceWeaver" 141 "AdviceWeaver$Body" "greatest" "I" ∈ wAll := wA_8_in (List.mem_of_getElem? (i := 23) rfl)
theorem hw_424 : Cond.fieldLink "AdviceWeaver" 138 "AdviceWeaver$Body" "instructions" "I" ∈ wAll := wA_8_in (List.mem_of_getElem? (i := 24) rfl)
theorem hw_425 : Cond.fieldLink "AdviceWeaver" 135 "AdviceWeaver$Body" "handlers" "I" ∈ wAll := wA_8_in (List.mem_of_getElem? (i := 25) rfl)
theorem hw_426 : Cond.fieldLink "AdviceWeaver" 132 "AdviceWeaver$Body" "length" "I" ∈ wAll := wA_8_in (List.mem_of_getElem? (i := 26) rfl)
theorem hw_427 : Cond.methodLink "AdviceWeaver" 144 y_B_byteAt ∈ wAll := wA_8_in (List.mem_of_getElem? (i := 27) rfl)
theorem hw_428 : Cond.methodLink "AdviceWeaver" 147 y_B_part ∈ wAll := wA_8_in (List.mem_of_getElem? (i := 28) rfl)
theorem hw_429 : Cond.methodLink "AdviceWeaver" 150 y_B_isReached ∈ wAll := wA_8_in (List.mem_of_getElem? (i := 29) rfl)
theorem hw_430 : Cond.fieldLink "AdviceWeaver" 153 "AdviceWeaver$Body" "depths" "[I" ∈ wAll := wA_8_in (List.mem_of_getElem? (i := 30) rfl)
theorem hw_431 : Cond.methodLink "AdviceWeaverModel" 96 y_MD_outside ∈ wAll := wA_8_in (List.mem_of_getElem? (i := 31) rfl)
theorem hw_432 : Cond.static y_MD_outside ∈ wAll := wA_8_in (List.mem_of_getElem? (i := 32) rfl)
theorem hw_433 : Cond.initialized "AdviceWeaverModel" ∈ wAll := wA_8_in (List.mem_of_getElem? (i := 33) rfl)
theorem hw_434 : Cond.code y_MD_outside b_MD_outside 3 (some .boolean) ∈ wAll := wA_8_in (List.mem_of_getElem? (i := 34) rfl)
theorem hw_435 : Cond.fieldLink "AdviceWeaverModel" 100 "AdviceWeaverModel" "size" "I" ∈ wAll := wA_8_in (List.mem_of_getElem? (i := 35) rfl)
theorem hw_436 : Cond.fieldLink "AdviceWeaverModel" 7 "AdviceWeaverModel" "bytes" "[I" ∈ wAll := wA_8_in (List.mem_of_getElem? (i := 36) rfl)
theorem hw_437 : Cond.fieldLink "AdviceWeaverModel" 160 "AdviceWeaverModel" "at" "I" ∈ wAll := wA_8_in (List.mem_of_getElem? (i := 37) rfl)
theorem hw_438 : Cond.fieldLink "AdviceWeaverModel" 163 "AdviceWeaverModel" "wrong" "I" ∈ wAll := wA_8_in (List.mem_of_getElem? (i := 38) rfl)
theorem hw_439 : Cond.fieldLink "AdviceWeaverModel" 13 "AdviceWeaverModel" "name" "[I" ∈ wAll := wA_8_in (List.mem_of_getElem? (i := 39) rfl)
theorem hw_440 : Cond.methodLink "AdviceWeaverModel" 166 y_MD_next ∈ wAll := wA_8_in (List.mem_of_getElem? (i := 40) rfl)
theorem hw_441 : Cond.instanceMethod y_MD_next ∈ wAll := wA_8_in (List.mem_of_getElem? (i := 41) rfl)
theorem hw_442 : Cond.selects "AdviceWeaverModel" y_MD_next y_MD_next ∈ wAll := wA_8_in (List.mem_of_getElem? (i := 42) rfl)
theorem hw_443 : Cond.code y_MD_next b_MD_next 4 (some .int) ∈ wAll := wA_8_in (List.mem_of_getElem? (i := 43) rfl)
theorem hw_444 : Cond.fieldLink "AdviceWeaverModel" 16 "AdviceWeaverModel" "args" "[I" ∈ wAll := wA_8_in (List.mem_of_getElem? (i := 44) rfl)
theorem hw_445 : Cond.fieldLink "AdviceWeaverModel" 19 "AdviceWeaverModel" "locals" "[I" ∈ wAll := wA_8_in (List.mem_of_getElem? (i := 45) rfl)
theorem hw_446 : Cond.fieldLink "AdviceWeaverModel" 22 "AdviceWeaverModel" "room" "[I" ∈ wAll := wA_8_in (List.mem_of_getElem? (i := 46) rfl)
theorem hw_447 : Cond.fieldLink "AdviceWeaverModel" 25 "AdviceWeaverModel" "length" "[I" ∈ wAll := wA_8_in (List.mem_of_getElem? (i := 47) rfl)
theorem hw_448 : Cond.fieldLink "AdviceWeaverModel" 28 "AdviceWeaverModel" "code" "[I" ∈ wAll := wA_8_in (List.mem_of_getElem? (i := 48) rfl)
theorem hw_449 : Cond.fieldLink "AdviceWeaverModel" 31 "AdviceWeaverModel" "handlers" "[I" ∈ wAll := wA_8_in (List.mem_of_getElem? (i := 49) rfl)
theorem hw_450 : Cond.fieldLink "AdviceWeaverModel" 34 "AdviceWeaverModel" "handler" "[I" ∈ wAll := wA_9_in (List.mem_of_getElem? (i := 0) rfl)
theorem hw_451 : Cond.fieldLink "AdviceWeaverModel" 50 "AdviceWeaverModel" "begins" "[Z" ∈ wAll := wA_9_in (List.mem_of_getElem? (i := 1) rfl)
theorem hw_452 : Cond.methodLink "AdviceWeaverModel" 104 y_MD_op ∈ wAll := wA_9_in (List.mem_of_getElem? (i := 2) rfl)
theorem hw_453 : Cond.instanceMethod y_MD_op ∈ wAll := wA_9_in (List.mem_of_getElem? (i := 3) rfl)
theorem hw_454 : Cond.selects "AdviceWeaverModel" y_MD_op y_MD_op ∈ wAll := wA_9_in (List.mem_of_getElem? (i := 4) rfl)
theorem hw_455 : Cond.code y_MD_op b_MD_op 3 (some .int) ∈ wAll := wA_9_in (List.mem_of_getElem? (i := 5) rfl)
theorem hw_456 : Cond.methodLink "AdviceWeaverModel" 111 y_MD_sizeOf ∈ wAll := wA_9_in (List.mem_of_getElem? (i := 6) rfl)
theorem hw_457 : Cond.static y_MD_sizeOf ∈ wAll := wA_9_in (List.mem_of_getElem? (i := 7) rfl)
theorem hw_458 : Cond.code y_MD_sizeOf b_MD_sizeOf 1 (some .int) ∈ wAll := wA_9_in (List.mem_of_getElem? (i := 8) rfl)
theorem hw_459 : Cond.methodLink "AdviceWeaverModel" 108 y_MD_signed ∈ wAll := wA_9_in (List.mem_of_getElem? (i := 9) rfl)
theorem hw_460 : Cond.instanceMethod y_MD_signed ∈ wAll := wA_9_in (List.mem_of_getElem? (i := 10) rfl)
theorem hw_461 : Cond.selects "AdviceWeaverModel" y_MD_signed y_MD_signed ∈ wAll := wA_9_in (List.mem_of_getElem? (i := 11) rfl)
theorem hw_462 : Cond.code y_MD_signed b_MD_signed 3 (some .int) ∈ wAll := wA_9_in (List.mem_of_getElem? (i := 12) rfl)
theorem hw_463 : Cond.methodLink "AdviceWeaverModel" 115 y_MD_divide ∈ wAll := wA_9_in (List.mem_of_getElem? (i := 13) rfl)
theorem hw_464 : Cond.instanceMethod y_MD_divide ∈ wAll := wA_9_in (List.mem_of_getElem? (i := 14) rfl)
theorem hw_465 : Cond.selects "AdviceWeaverModel" y_MD_divide y_MD_divide ∈ wAll := wA_9_in (List.mem_of_getElem? (i := 15) rfl)
theorem hw_466 : Cond.code y_MD_divide b_MD_divide 4 (some .boolean) ∈ wAll := wA_9_in (List.mem_of_getElem? (i := 16) rfl)
theorem hw_467 : Cond.methodLink "AdviceWeaverModel" 119 y_MD_branches ∈ wAll := wA_9_in (List.mem_of_getElem? (i := 17) rfl)
theorem hw_468 : Cond.static y_MD_branches ∈ wAll := wA_9_in (List.mem_of_getElem? (i := 18) rfl)
theorem hw_469 : Cond.code y_MD_branches b_MD_branches 1 (some .boolean) ∈ wAll := wA_9_in (List.mem_of_getElem? (i := 19) rfl)
theorem hw_470 : Cond.methodLink "AdviceWeaverModel" 122 y_MD_target ∈ wAll := wA_9_in (List.mem_of_getElem? (i := 20) rfl)
theorem hw_471 : Cond.instanceMethod y_MD_target ∈ wAll := wA_9_in (List.mem_of_getElem? (i := 21) rfl)
theorem hw_472 : Cond.selects "AdviceWeaverModel" y_MD_target y_MD_target ∈ wAll := wA_9_in (List.mem_of_getElem? (i := 22) rfl)
theorem hw_473 : Cond.code y_MD_target b_MD_target 3 (some .int) ∈ wAll := wA_9_in (List.mem_of_getElem? (i := 23) rfl)
theorem hw_474 : Cond.methodLink "AdviceWeaverModel" 125 y_MD_isPlace ∈ wAll := wA_9_in (List.mem_of_getElem? (i := 24) rfl)
theorem hw_475 : Cond.instanceMethod y_MD_isPlace ∈ wAll := wA_9_in (List.mem_of_getElem? (i := 25) rfl)
theorem hw_476 : Cond.selects "AdviceWeaverModel" y_MD_isPlace y_MD_isPlace ∈ wAll := wA_9_in (List.mem_of_getElem? (i := 26) rfl)
theorem hw_477 : Cond.code y_MD_isPlace b_MD_isPlace 3 (some .boolean) ∈ wAll := wA_9_in (List.mem_of_getElem? (i := 27) rfl)
theorem hw_478 : Cond.fieldLink "AdviceWeaverModel" 129 "AdviceWeaverModel" "read" "I" ∈ wAll := wA_9_in (List.mem_of_getElem? (i := 28) rfl)
theorem hw_479 : Cond.fieldLink "AdviceWeaverModel" 53 "AdviceWeaverModel" "depths" "[I" ∈ wAll := wA_9_in (List.mem_of_getElem? (i := 29) rfl)
theorem hw_480 : Cond.fieldLink "AdviceWeaverModel" 136 "AdviceWeaverModel" "more" "Z" ∈ wAll := wA_9_in (List.mem_of_getElem? (i := 30) rfl)
theorem hw_481 : Cond.fieldLink "AdviceWeaverModel" 56 "AdviceWeaverModel" "sets" "[J" ∈ wAll := wA_9_in (List.mem_of_getElem? (i := 31) rfl)
theorem hw_482 : Cond.fieldLink "AdviceWeaverModel" 132 "AdviceWeaverModel" "sound" "Z" ∈ wAll := wA_9_in (List.mem_of_getElem? (i := 32) rfl)
theorem hw_483 : Cond.methodLink "AdviceWeaverModel" 139 y_MD_reach ∈ wAll := wA_9_in (List.mem_of_getElem? (i := 33) rfl)
theorem hw_484 : Cond.instanceMethod y_MD_reach ∈ wAll := wA_9_in (List.mem_of_getElem? (i := 34) rfl)
theorem hw_485 : Cond.selects "AdviceWeaverModel" y_MD_reach y_MD_reach ∈ wAll := wA_9_in (List.mem_of_getElem? (i := 35) rfl)
theorem hw_486 : Cond.code y_MD_reach b_MD_reach 6 none ∈ wAll := wA_9_in (List.mem_of_getElem? (i := 36) rfl)
theorem hw_487 : Cond.methodLink "AdviceWeaverModel" 143 y_MD_takes ∈ wAll := wA_9_in (List.mem_of_getElem? (i := 37) rfl)
theorem hw_488 : Cond.instanceMethod y_MD_takes ∈ wAll := wA_9_in (List.mem_of_getElem? (i := 38) rfl)
theorem hw_489 : Cond.selects "AdviceWeaverModel" y_MD_takes y_MD_takes ∈ wAll := wA_9_in (List.mem_of_getElem? (i := 39) rfl)
theorem hw_490 : Cond.code y_MD_takes b_MD_takes 4 (some .int) ∈ wAll := wA_9_in (List.mem_of_getElem? (i := 40) rfl)
theorem hw_491 : Cond.methodLink "AdviceWeaverModel" 146 y_MD_with ∈ wAll := wA_9_in (List.mem_of_getElem? (i := 41) rfl)
theorem hw_492 : Cond.instanceMethod y_MD_with ∈ wAll := wA_9_in (List.mem_of_getElem? (i := 42) rfl)
theorem hw_493 : Cond.selects "AdviceWeaverModel" y_MD_with y_MD_with ∈ wAll := wA_9_in (List.mem_of_getElem? (i := 43) rfl)
theorem hw_494 : Cond.code y_MD_with b_MD_with 8 (some .long) ∈ wAll := wA_9_in (List.mem_of_getElem? (i := 44) rfl)
theorem hw_495 : Cond.methodLink "AdviceWeaverModel" 150 y_MD_puts ∈ wAll := wA_9_in (List.mem_of_getElem? (i := 45) rfl)
theorem hw_496 : Cond.static y_MD_puts ∈ wAll := wA_9_in (List.mem_of_getElem? (i := 46) rfl)
theorem hw_497 : Cond.code y_MD_puts b_MD_puts 1 (some .int) ∈ wAll := wA_9_in (List.mem_of_getElem? (i := 47) rfl)
theorem hw_498 : Cond.methodLink "AdviceWeaverModel" 153 y_MD_ends ∈ wAll := wA_9_in (List.mem_of_getElem? (i := 48) rfl)
theorem hw_499 : Cond.static y_MD_ends ∈ wAll := wA_9_in (List.mem_of_getElem? (i := 49) rfl)
theorem hw_500 : Cond.code y_MD_ends b_MD_ends 1 (some .boolean) ∈ wAll := wA_10_in (List.mem_of_getElem? (i := 0) rfl)
theorem hw_501 : Cond.methodLink "AdviceWeaverModel" 156 y_MD_follow ∈ wAll := wA_10_in (List.mem_of_getElem? (i := 1) rfl)
theorem hw_502 : Cond.instanceMethod y_MD_follow ∈ wAll := wA_10_in (List.mem_of_getElem? (i := 2) rfl)
theorem hw_503 : Cond.selects "AdviceWeaverModel" y_MD_follow y_MD_follow ∈ wAll := wA_10_in (List.mem_of_getElem? (i := 3) rfl)
theorem hw_504 : Cond.code y_MD_follow b_MD_follow 8 none ∈ wAll := wA_10_in (List.mem_of_getElem? (i := 4) rfl)
theorem hw_505 : Cond.methodLink "AdviceWeaverModel" 169 y_MD_readMethod ∈ wAll := wA_10_in (List.mem_of_getElem? (i := 5) rfl)
theorem hw_506 : Cond.instanceMethod y_MD_readMethod ∈ wAll := wA_10_in (List.mem_of_getElem? (i := 6) rfl)
theorem hw_507 : Cond.selects "AdviceWeaverModel" y_MD_readMethod y_MD_readMethod ∈ wAll := wA_10_in (List.mem_of_getElem? (i := 7) rfl)
theorem hw_508 : Cond.code y_MD_readMethod b_MD_readMethod 3 none ∈ wAll := wA_10_in (List.mem_of_getElem? (i := 8) rfl)
theorem hw_509 : Cond.methodLink "AdviceWeaverModel" 173 y_MD_formed ∈ wAll := wA_10_in (List.mem_of_getElem? (i := 9) rfl)
theorem hw_510 : Cond.instanceMethod y_MD_formed ∈ wAll := wA_10_in (List.mem_of_getElem? (i := 10) rfl)
theorem hw_511 : Cond.selects "AdviceWeaverModel" y_MD_formed y_MD_formed ∈ wAll := wA_10_in (List.mem_of_getElem? (i := 11) rfl)
theorem hw_512 : Cond.code y_MD_formed b_MD_formed 5 (some .boolean) ∈ wAll := wA_10_in (List.mem_of_getElem? (i := 12) rfl)
theorem hw_513 : Cond.methodLink "AdviceWeaverModel" 176 y_MD_explore ∈ wAll := wA_10_in (List.mem_of_getElem? (i := 13) rfl)
theorem hw_514 : Cond.instanceMethod y_MD_explore ∈ wAll := wA_10_in (List.mem_of_getElem? (i := 14) rfl)
theorem hw_515 : Cond.selects "AdviceWeaverModel" y_MD_explore y_MD_explore ∈ wAll := wA_10_in (List.mem_of_getElem? (i := 15) rfl)
theorem hw_516 : Cond.code y_MD_explore b_MD_explore 3 (some .boolean) ∈ wAll := wA_10_in (List.mem_of_getElem? (i := 16) rfl)
theorem hw_517 : Cond.fieldLink "AdviceWeaverModel" 179 "AdviceWeaverModel" "methods" "I" ∈ wAll := wA_10_in (List.mem_of_getElem? (i := 17) rfl)
theorem hw_518 : Cond.fieldLink "AdviceWeaverModel" 182 "AdviceWeaverModel" "woven" "Z" ∈ wAll := wA_10_in (List.mem_of_getElem? (i := 18) rfl)
theorem hw_519 : Cond.methodLink "AdviceWeaverModel" 185 y_MD_copy ∈ wAll := wA_10_in (List.mem_of_getElem? (i := 19) rfl)
theorem hw_520 : Cond.instanceMethod y_MD_copy ∈ wAll := wA_10_in (List.mem_of_getElem? (i := 20) rfl)
theorem hw_521 : Cond.selects "AdviceWeaverModel" y_MD_copy y_MD_copy ∈ wAll := wA_10_in (List.mem_of_getElem? (i := 21) rfl)
theorem hw_522 : Cond.code y_MD_copy b_MD_copy 4 none ∈ wAll := wA_10_in (List.mem_of_getElem? (i := 22) rfl)
theorem hw_523 : Cond.fieldLink "AdviceWeaverModel" 47 "AdviceWeaverModel" "fails" "[Z" ∈ wAll := wA_10_in (List.mem_of_getElem? (i := 23) rfl)
theorem hw_524 : Cond.fieldLink "AdviceWeaverModel" 188 "AdviceWeaverModel" "chain" "I" ∈ wAll := wA_10_in (List.mem_of_getElem? (i := 24) rfl)
theorem hw_525 : Cond.fieldLink "AdviceWeaverModel" 37 "AdviceWeaverModel" "cover" "[Z" ∈ wAll := wA_10_in (List.mem_of_getElem? (i := 25) rfl)
theorem hw_526 : Cond.fieldLink "AdviceWeaverModel" 41 "AdviceWeaverModel" "letter" "[I" ∈ wAll := wA_10_in (List.mem_of_getElem? (i := 26) rfl)
theorem hw_527 : Cond.fieldLink "AdviceWeaverModel" 44 "AdviceWeaverModel" "wanted" "[I" ∈ wAll := wA_10_in (List.mem_of_getElem? (i := 27) rfl)
theorem hw_528 : Cond.fieldLink "AdviceWeaverModel" 60 "AdviceWeaverModel" "before" "[Z" ∈ wAll := wA_10_in (List.mem_of_getElem? (i := 28) rfl)
theorem hw_529 : Cond.fieldLink "AdviceWeaverModel" 66 "AdviceWeaverModel" "lead" "[I" ∈ wAll := wA_10_in (List.mem_of_getElem? (i := 29) rfl)
theorem hw_530 : Cond.fieldLink "AdviceWeaverModel" 69 "AdviceWeaverModel" "own" "[I" ∈ wAll := wA_10_in (List.mem_of_getElem? (i := 30) rfl)
theorem hw_531 : Cond.fieldLink "AdviceWeaverModel" 63 "AdviceWeaverModel" "wide" "[Z" ∈ wAll := wA_10_in (List.mem_of_getElem? (i := 31) rfl)
theorem hw_532 : Cond.fieldLink "AdviceWeaverModel" 72 "AdviceWeaverModel" "fresh" "[I" ∈ wAll := wA_10_in (List.mem_of_getElem? (i := 32) rfl)
theorem hw_533 : Cond.fieldLink "AdviceWeaverModel" 191 "AdviceWeaverModel" "made" "I" ∈ wAll := wA_10_in (List.mem_of_getElem? (i := 33) rfl)
theorem hw_534 : Cond.methodLink "AdviceWeaverModel" 194 y_MD_emit ∈ wAll := wA_10_in (List.mem_of_getElem? (i := 34) rfl)
theorem hw_535 : Cond.instanceMethod y_MD_emit ∈ wAll := wA_10_in (List.mem_of_getElem? (i := 35) rfl)
theorem hw_536 : Cond.selects "AdviceWeaverModel" y_MD_emit y_MD_emit ∈ wAll := wA_10_in (List.mem_of_getElem? (i := 36) rfl)
theorem hw_537 : Cond.code y_MD_emit b_MD_emit 2 none ∈ wAll := wA_10_in (List.mem_of_getElem? (i := 37) rfl)
theorem hw_538 : Cond.methodLink "AdviceWeaverModel" 197 y_MD_choose ∈ wAll := wA_10_in (List.mem_of_getElem? (i := 38) rfl)
theorem hw_539 : Cond.instanceMethod y_MD_choose ∈ wAll := wA_10_in (List.mem_of_getElem? (i := 39) rfl)
theorem hw_540 : Cond.selects "AdviceWeaverModel" y_MD_choose y_MD_choose ∈ wAll := wA_10_in (List.mem_of_getElem? (i := 40) rfl)
theorem hw_541 : Cond.code y_MD_choose b_MD_choose 5 none ∈ wAll := wA_10_in (List.mem_of_getElem? (i := 41) rfl)
theorem hw_542 : Cond.methodLink "AdviceWeaverModel" 201 y_MD_lay ∈ wAll := wA_10_in (List.mem_of_getElem? (i := 42) rfl)
theorem hw_543 : Cond.instanceMethod y_MD_lay ∈ wAll := wA_10_in (List.mem_of_getElem? (i := 43) rfl)
theorem hw_544 : Cond.selects "AdviceWeaverModel" y_MD_lay y_MD_lay ∈ wAll := wA_10_in (List.mem_of_getElem? (i := 44) rfl)
theorem hw_545 : Cond.code y_MD_lay b_MD_lay 6 (some .boolean) ∈ wAll := wA_10_in (List.mem_of_getElem? (i := 45) rfl)
theorem hw_546 : Cond.methodLink "AdviceWeaverModel" 204 y_MD_emitOne ∈ wAll := wA_10_in (List.mem_of_getElem? (i := 46) rfl)
theorem hw_547 : Cond.instanceMethod y_MD_emitOne ∈ wAll := wA_10_in (List.mem_of_getElem? (i := 47) rfl)
theorem hw_548 : Cond.selects "AdviceWeaverModel" y_MD_emitOne y_MD_emitOne ∈ wAll := wA_10_in (List.mem_of_getElem? (i := 48) rfl)
theorem hw_549 : Cond.code y_MD_emitOne b_MD_emitOne 7 none ∈ wAll := wA_10_in (List.mem_of_getElem? (i := 49) rfl)
theorem hw_550 : Cond.methodLink "AdviceWeaverModel" 207 y_MD_transform ∈ wAll := wA_11_in (List.mem_of_getElem? (i := 0) rfl)
theorem hw_551 : Cond.instanceMethod y_MD_transform ∈ wAll := wA_11_in (List.mem_of_getElem? (i := 1) rfl)
theorem hw_552 : Cond.selects "AdviceWeaverModel" y_MD_transform y_MD_transform ∈ wAll := wA_11_in (List.mem_of_getElem? (i := 2) rfl)
theorem hw_553 : Cond.code y_MD_transform b_MD_transform 7 (some .boolean) ∈ wAll := wA_11_in (List.mem_of_getElem? (i := 3) rfl)
theorem hw_554 : Cond.fieldLink "AdviceWeaverModel" 75 "AdviceWeaverModel" "method" "[I" ∈ wAll := wA_11_in (List.mem_of_getElem? (i := 4) rfl)
theorem hw_555 : Cond.fieldLink "AdviceWeaverModel" 210 "AdviceWeaverModel" "under" "I" ∈ wAll := wA_11_in (List.mem_of_getElem? (i := 5) rfl)
theorem hw_556 : Cond.fieldLink "AdviceWeaverModel" 78 "AdviceWeaverModel" "place" "[I" ∈ wAll := wA_11_in (List.mem_of_getElem? (i := 6) rfl)
theorem hw_557 : Cond.fieldLink "AdviceWeaverModel" 81 "AdviceWeaverModel" "height" "[I" ∈ wAll := wA_11_in (List.mem_of_getElem? (i := 7) rfl)
theorem hw_558 : Cond.fieldLink "AdviceWeaverModel" 84 "AdviceWeaverModel" "local" "[I" ∈ wAll := wA_11_in (List.mem_of_getElem? (i := 8) rfl)
theorem hw_559 : Cond.fieldLink "AdviceWeaverModel" 87 "AdviceWeaverModel" "stack" "[I" ∈ wAll := wA_11_in (List.mem_of_getElem? (i := 9) rfl)
theorem hw_560 : Cond.methodLink "AdviceWeaverModel" 222 y_MD_pop ∈ wAll := wA_11_in (List.mem_of_getElem? (i := 10) rfl)
theorem hw_561 : Cond.instanceMethod y_MD_pop ∈ wAll := wA_11_in (List.mem_of_getElem? (i := 11) rfl)
theorem hw_562 : Cond.selects "AdviceWeaverModel" y_MD_pop y_MD_pop ∈ wAll := wA_11_in (List.mem_of_getElem? (i := 12) rfl)
theorem hw_563 : Cond.code y_MD_pop b_MD_pop 2 (some .int) ∈ wAll := wA_11_in (List.mem_of_getElem? (i := 13) rfl)
theorem hw_564 : Cond.methodLink "AdviceWeaverModel" 213 y_MD_push ∈ wAll := wA_11_in (List.mem_of_getElem? (i := 14) rfl)
theorem hw_565 : Cond.instanceMethod y_MD_push ∈ wAll := wA_11_in (List.mem_of_getElem? (i := 15) rfl)
theorem hw_566 : Cond.selects "AdviceWeaverModel" y_MD_push y_MD_push ∈ wAll := wA_11_in (List.mem_of_getElem? (i := 16) rfl)
theorem hw_567 : Cond.code y_MD_push b_MD_push 3 none ∈ wAll := wA_11_in (List.mem_of_getElem? (i := 17) rfl)
theorem hw_568 : Cond.fieldLink "AdviceWeaverModel" 216 "AdviceWeaverModel" "outcome" "I" ∈ wAll := wA_11_in (List.mem_of_getElem? (i := 18) rfl)
theorem hw_569 : Cond.fieldLink "AdviceWeaverModel" 219 "AdviceWeaverModel" "value" "I" ∈ wAll := wA_11_in (List.mem_of_getElem? (i := 19) rfl)
theorem hw_570 : Cond.methodLink "AdviceWeaverModel" 226 y_MD_raise ∈ wAll := wA_11_in (List.mem_of_getElem? (i := 20) rfl)
theorem hw_571 : Cond.instanceMethod y_MD_raise ∈ wAll := wA_11_in (List.mem_of_getElem? (i := 21) rfl)
theorem hw_572 : Cond.selects "AdviceWeaverModel" y_MD_raise y_MD_raise ∈ wAll := wA_11_in (List.mem_of_getElem? (i := 22) rfl)
theorem hw_573 : Cond.code y_MD_raise b_MD_raise 5 none ∈ wAll := wA_11_in (List.mem_of_getElem? (i := 23) rfl)
theorem hw_574 : Cond.methodLink "AdviceWeaverModel" 229 y_MD_enter ∈ wAll := wA_11_in (List.mem_of_getElem? (i := 24) rfl)
theorem hw_575 : Cond.instanceMethod y_MD_enter ∈ wAll := wA_11_in (List.mem_of_getElem? (i := 25) rfl)
theorem hw_576 : Cond.selects "AdviceWeaverModel" y_MD_enter y_MD_enter ∈ wAll := wA_11_in (List.mem_of_getElem? (i := 26) rfl)
theorem hw_577 : Cond.code y_MD_enter b_MD_enter 3 none ∈ wAll := wA_11_in (List.mem_of_getElem? (i := 27) rfl)
theorem hw_578 : Cond.fieldLink "AdviceWeaverModel" 232 "AdviceWeaverModel" "marks" "I" ∈ wAll := wA_11_in (List.mem_of_getElem? (i := 28) rfl)
theorem hw_579 : Cond.fieldLink "AdviceWeaverModel" 90 "AdviceWeaverModel" "mark" "[I" ∈ wAll := wA_11_in (List.mem_of_getElem? (i := 29) rfl)
theorem hw_580 : Cond.fieldLink "AdviceWeaverModel" 93 "AdviceWeaverModel" "probe" "[I" ∈ wAll := wA_11_in (List.mem_of_getElem? (i := 30) rfl)
theorem hw_581 : Cond.fieldLink "AdviceWeaverModel" 235 "AdviceWeaverModel" "used" "I" ∈ wAll := wA_11_in (List.mem_of_getElem? (i := 31) rfl)
theorem hw_582 : Cond.methodLink "AdviceWeaverModel" 242 y_MD_calculate ∈ wAll := wA_11_in (List.mem_of_getElem? (i := 32) rfl)
theorem hw_583 : Cond.instanceMethod y_MD_calculate ∈ wAll := wA_11_in (List.mem_of_getElem? (i := 33) rfl)
theorem hw_584 : Cond.selects "AdviceWeaverModel" y_MD_calculate y_MD_calculate ∈ wAll := wA_11_in (List.mem_of_getElem? (i := 34) rfl)
theorem hw_585 : Cond.code y_MD_calculate b_MD_calculate 4 none ∈ wAll := wA_11_in (List.mem_of_getElem? (i := 35) rfl)
theorem hw_586 : Cond.methodLink "AdviceWeaverModel" 251 y_MD_plain ∈ wAll := wA_11_in (List.mem_of_getElem? (i := 36) rfl)
theorem hw_587 : Cond.instanceMethod y_MD_plain ∈ wAll := wA_11_in (List.mem_of_getElem? (i := 37) rfl)
theorem hw_588 : Cond.selects "AdviceWeaverModel" y_MD_plain y_MD_plain ∈ wAll := wA_11_in (List.mem_of_getElem? (i := 38) rfl)
theorem hw_589 : Cond.code y_MD_plain b_MD_plain 6 none ∈ wAll := wA_11_in (List.mem_of_getElem? (i := 39) rfl)
theorem hw_590 : Cond.methodLink "AdviceWeaverModel" 248 y_MD_giveBack ∈ wAll := wA_11_in (List.mem_of_getElem? (i := 40) rfl)
theorem hw_591 : Cond.instanceMethod y_MD_giveBack ∈ wAll := wA_11_in (List.mem_of_getElem? (i := 41) rfl)
theorem hw_592 : Cond.selects "AdviceWeaverModel" y_MD_giveBack y_MD_giveBack ∈ wAll := wA_11_in (List.mem_of_getElem? (i := 42) rfl)
theorem hw_593 : Cond.code y_MD_giveBack b_MD_giveBack 2 none ∈ wAll := wA_11_in (List.mem_of_getElem? (i := 43) rfl)
theorem hw_594 : Cond.methodLink "AdviceWeaverModel" 245 y_MD_call ∈ wAll := wA_11_in (List.mem_of_getElem? (i := 44) rfl)
theorem hw_595 : Cond.instanceMethod y_MD_call ∈ wAll := wA_11_in (List.mem_of_getElem? (i := 45) rfl)
theorem hw_596 : Cond.selects "AdviceWeaverModel" y_MD_call y_MD_call ∈ wAll := wA_11_in (List.mem_of_getElem? (i := 46) rfl)
theorem hw_597 : Cond.code y_MD_call b_MD_call 5 none ∈ wAll := wA_11_in (List.mem_of_getElem? (i := 47) rfl)
theorem hw_598 : Cond.methodLink "AdviceWeaverModel" 238 y_MD_branch ∈ wAll := wA_11_in (List.mem_of_getElem? (i := 48) rfl)
theorem hw_599 : Cond.instanceMethod y_MD_branch ∈ wAll := wA_11_in (List.mem_of_getElem? (i := 49) rfl)
theorem hw_600 : Cond.selects "AdviceWeaverModel" y_MD_branch y_MD_branch ∈ wAll := wA_12_in (List.mem_of_getElem? (i := 0) rfl)
theorem hw_601 : Cond.code y_MD_branch b_MD_branch 6 none ∈ wAll := wA_12_in (List.mem_of_getElem? (i := 1) rfl)
theorem hw_602 : Cond.constant "AdviceWeaverModel" 254 1000000 ∈ wAll := wA_12_in (List.mem_of_getElem? (i := 2) rfl)
theorem hw_603 : Cond.methodLink "AdviceWeaverModel" 255 y_MD_one ∈ wAll := wA_12_in (List.mem_of_getElem? (i := 3) rfl)
theorem hw_604 : Cond.instanceMethod y_MD_one ∈ wAll := wA_12_in (List.mem_of_getElem? (i := 4) rfl)
theorem hw_605 : Cond.selects "AdviceWeaverModel" y_MD_one y_MD_one ∈ wAll := wA_12_in (List.mem_of_getElem? (i := 5) rfl)
theorem hw_606 : Cond.code y_MD_one b_MD_one 5 none ∈ wAll := wA_12_in (List.mem_of_getElem? (i := 6) rfl)
theorem hw_607 : Cond.methodLink "AdviceWeaverModel" 258 y_MD_slot ∈ wAll := wA_12_in (List.mem_of_getElem? (i := 7) rfl)
theorem hw_608 : Cond.instanceMethod y_MD_slot ∈ wAll := wA_12_in (List.mem_of_getElem? (i := 8) rfl)
theorem hw_609 : Cond.selects "AdviceWeaverModel" y_MD_slot y_MD_slot ∈ wAll := wA_12_in (List.mem_of_getElem? (i := 9) rfl)
theorem hw_610 : Cond.code y_MD_slot b_MD_slot 3 (some .int) ∈ wAll := wA_12_in (List.mem_of_getElem? (i := 10) rfl)
theorem hw_611 : Cond.instanceMethod y_AW_init ∈ wAll := wA_12_in (List.mem_of_getElem? (i := 11) rfl)
theorem hw_612 : Cond.code y_AW_init b_AW_init 2 none ∈ wAll := wA_12_in (List.mem_of_getElem? (i := 12) rfl)
theorem hw_613 : Cond.methodLink "AdviceWeaver" 1 objectInit ∈ wAll := wA_12_in (List.mem_of_getElem? (i := 13) rfl)
theorem hw_614 : Cond.methodLink "AdviceWeaver" 28 y_B_init ∈ wAll := wA_12_in (List.mem_of_getElem? (i := 14) rfl)
theorem hw_615 : Cond.methodLink "AdviceWeaver" 58 y_MC_init ∈ wAll := wA_12_in (List.mem_of_getElem? (i := 15) rfl)
theorem hw_616 : Cond.instanceMethod y_CF_init ∈ wAll := wA_12_in (List.mem_of_getElem? (i := 16) rfl)
theorem hw_617 : Cond.code y_CF_init b_CF_init 1 none ∈ wAll := wA_12_in (List.mem_of_getElem? (i := 17) rfl)
theorem hw_618 : Cond.methodLink "AdviceWeaver$ClassFile" 3 objectInit ∈ wAll := wA_12_in (List.mem_of_getElem? (i := 18) rfl)
theorem hw_619 : Cond.instanceMethod y_B_init ∈ wAll := wA_12_in (List.mem_of_getElem? (i := 19) rfl)
theorem hw_620 : Cond.code y_B_init b_B_init 3 none ∈ wAll := wA_12_in (List.mem_of_getElem? (i := 20) rfl)
theorem hw_621 : Cond.methodLink "AdviceWeaver$Body" 3 objectInit ∈ wAll := wA_12_in (List.mem_of_getElem? (i := 21) rfl)
theorem hw_622 : Cond.instanceMethod y_TR_init ∈ wAll := wA_12_in (List.mem_of_getElem? (i := 22) rfl)
theorem hw_623 : Cond.code y_TR_init b_TR_init 1 none ∈ wAll := wA_12_in (List.mem_of_getElem? (i := 23) rfl)
theorem hw_624 : Cond.methodLink "AdviceWeaver$Transformer" 1 objectInit ∈ wAll := wA_12_in (List.mem_of_getElem? (i := 24) rfl)
theorem hw_625 : Cond.instanceMethod y_FL_init ∈ wAll := wA_12_in (List.mem_of_getElem? (i := 25) rfl)
theorem hw_626 : Cond.code y_FL_init b_FL_init 1 none ∈ wAll := wA_12_in (List.mem_of_getElem? (i := 26) rfl)
theorem hw_627 : Cond.methodLink "AdviceWeaver$Flow" 3 objectInit ∈ wAll := wA_12_in (List.mem_of_getElem? (i := 27) rfl)
theorem hw_628 : Cond.instanceMethod y_LM_init ∈ wAll := wA_12_in (List.mem_of_getElem? (i := 28) rfl)
theorem hw_629 : Cond.code y_LM_init b_LM_init 1 none ∈ wAll := wA_12_in (List.mem_of_getElem? (i := 29) rfl)
theorem hw_630 : Cond.methodLink "AdviceWeaver$Loom" 3 objectInit ∈ wAll := wA_12_in (List.mem_of_getElem? (i := 30) rfl)
theorem hw_631 : Cond.methodLink "AdviceWeaver$Loom" 11 y_B_init ∈ wAll := wA_12_in (List.mem_of_getElem? (i := 31) rfl)
theorem hw_632 : Cond.instanceMethod y_MC_init ∈ wAll := wA_12_in (List.mem_of_getElem? (i := 32) rfl)
theorem hw_633 : Cond.code y_MC_init b_MC_init 2 none ∈ wAll := wA_12_in (List.mem_of_getElem? (i := 33) rfl)
theorem hw_634 : Cond.methodLink "AdviceWeaver$Machine" 3 objectInit ∈ wAll := wA_12_in (List.mem_of_getElem? (i := 34) rfl)
theorem hw_635 : Cond.instanceMethod y_FR_init ∈ wAll := wA_12_in (List.mem_of_getElem? (i := 35) rfl)
theorem hw_636 : Cond.code y_FR_init b_FR_init 1 none ∈ wAll := wA_12_in (List.mem_of_getElem? (i := 36) rfl)
theorem hw_637 : Cond.methodLink "AdviceWeaver$Frame" 3 objectInit ∈ wAll := wA_12_in (List.mem_of_getElem? (i := 37) rfl)
theorem hw_638 : Cond.instanceMethod y_MD_init ∈ wAll := wA_12_in (List.mem_of_getElem? (i := 38) rfl)
theorem hw_639 : Cond.code y_MD_init b_MD_init 1 none ∈ wAll := wA_12_in (List.mem_of_getElem? (i := 39) rfl)
theorem hw_640 : Cond.methodLink "AdviceWeaverModel" 1 objectInit ∈ wAll := wA_12_in (List.mem_of_getElem? (i := 40) rfl)
theorem hw_641 : Cond.instanceMethod objectInit ∈ wAll := wA_12_in (List.mem_of_getElem? (i := 41) rfl)
theorem hw_642 : Cond.code objectInit ⟨#[0xb1]⟩ 1 none ∈ wAll := wA_12_in (List.mem_of_getElem? (i := 42) rfl)
theorem hw_643 : Cond.arrayClass .int ∈ wAll := wA_12_in (List.mem_of_getElem? (i := 43) rfl)
theorem hw_644 : Cond.arrayClass .boolean ∈ wAll := wA_12_in (List.mem_of_getElem? (i := 44) rfl)
theorem hw_645 : Cond.arrayClass .long ∈ wAll := wA_12_in (List.mem_of_getElem? (i := 45) rfl)
theorem hw_646 : Cond.instantiable "AdviceWeaver" 12 ∈ wAll := wA_12_in (List.mem_of_getElem? (i := 46) rfl)
theorem hw_647 : Cond.instantiable "AdviceWeaver$ClassFile" 4 ∈ wAll := wA_12_in (List.mem_of_getElem? (i := 47) rfl)
theorem hw_648 : Cond.instantiable "AdviceWeaver$Body" 12 ∈ wAll := wA_12_in (List.mem_of_getElem? (i := 48) rfl)
theorem hw_649 : Cond.instantiable "AdviceWeaver$Transformer" 3 ∈ wAll := wA_12_in (List.mem_of_getElem? (i := 49) rfl)
theorem hw_650 : Cond.instantiable "AdviceWeaver$Flow" 3 ∈ wAll := wA_13_in (List.mem_of_getElem? (i := 0) rfl)
theorem hw_651 : Cond.instantiable "AdviceWeaver$Loom" 8 ∈ wAll := wA_13_in (List.mem_of_getElem? (i := 1) rfl)
theorem hw_652 : Cond.instantiable "AdviceWeaver$Machine" 9 ∈ wAll := wA_13_in (List.mem_of_getElem? (i := 2) rfl)
theorem hw_653 : Cond.instantiable "AdviceWeaver$Frame" 5 ∈ wAll := wA_13_in (List.mem_of_getElem? (i := 3) rfl)
theorem hw_654 : Cond.instantiable "AdviceWeaverModel" 43 ∈ wAll := wA_13_in (List.mem_of_getElem? (i := 4) rfl)
theorem hw_655 : Cond.classLink "AdviceWeaverLaw" 7 "AdviceWeaver" ∈ wAll := wA_13_in (List.mem_of_getElem? (i := 5) rfl)
theorem hw_656 : Cond.classLink "AdviceWeaver" 7 "AdviceWeaver$ClassFile" ∈ wAll := wA_13_in (List.mem_of_getElem? (i := 6) rfl)
theorem hw_657 : Cond.classLink "AdviceWeaver" 16 "AdviceWeaver$Body" ∈ wAll := wA_13_in (List.mem_of_getElem? (i := 7) rfl)
theorem hw_658 : Cond.classLink "AdviceWeaver" 31 "AdviceWeaver$Transformer" ∈ wAll := wA_13_in (List.mem_of_getElem? (i := 8) rfl)
theorem hw_659 : Cond.classLink "AdviceWeaver" 42 "AdviceWeaver$Flow" ∈ wAll := wA_13_in (List.mem_of_getElem? (i := 9) rfl)
theorem hw_660 : Cond.classLink "AdviceWeaver" 49 "AdviceWeaver$Loom" ∈ wAll := wA_13_in (List.mem_of_getElem? (i := 10) rfl)
theorem hw_661 : Cond.classLink "AdviceWeaver$Loom" 9 "AdviceWeaver$Body" ∈ wAll := wA_13_in (List.mem_of_getElem? (i := 11) rfl)
theorem hw_662 : Cond.classLink "AdviceWeaver" 56 "AdviceWeaver$Machine" ∈ wAll := wA_13_in (List.mem_of_getElem? (i := 12) rfl)
theorem hw_663 : Cond.classLink "AdviceWeaver$Machine" 11 "AdviceWeaver$Frame" ∈ wAll := wA_13_in (List.mem_of_getElem? (i := 13) rfl)
theorem hw_664 : Cond.classLink "AdviceWeaverLaw" 10 "AdviceWeaverModel" ∈ wAll := wA_13_in (List.mem_of_getElem? (i := 14) rfl)
theorem hin_B : ∀ w ∈ u_ws "AdviceWeaver$Body" T_B 12, w ∈ wAll := by
  intro w hw
  obtain ⟨k, hk, rfl⟩ := List.mem_map.mp hw
  have hk := List.mem_range.mp hk
  revert hk
  have key : ∀ k, k < 12 → u_lay "AdviceWeaver$Body" T_B k ∈ wAll := by
    intro k hk
    rcases (show k = 0 ∨ k = 1 ∨ k = 2 ∨ k = 3 ∨ k = 4 ∨ k = 5 ∨ k = 6 ∨ k = 7 ∨ k = 8 ∨ k = 9 ∨ k = 10 ∨ k = 11 by omega) with rfl | rfl | rfl | rfl | rfl | rfl | rfl | rfl | rfl | rfl | rfl | rfl
    · exact wA_13_in (List.mem_of_getElem? (i := 15) rfl)
    · exact wA_13_in (List.mem_of_getElem? (i := 16) rfl)
    · exact wA_13_in (List.mem_of_getElem? (i := 17) rfl)
    · exact wA_13_in (List.mem_of_getElem? (i := 18) rfl)
    · exact wA_13_in (List.mem_of_getElem? (i := 19) rfl)
    · exact wA_13_in (List.mem_of_getElem? (i := 20) rfl)
    · exact wA_13_in (List.mem_of_getElem? (i := 21) rfl)
    · exact wA_13_in (List.mem_of_getElem? (i := 22) rfl)
    · exact wA_13_in (List.mem_of_getElem? (i := 23) rfl)
    · exact wA_13_in (List.mem_of_getElem? (i := 24) rfl)
    · exact wA_13_in (List.mem_of_getElem? (i := 25) rfl)
    · exact wA_13_in (List.mem_of_getElem? (i := 26) rfl)
  intro hk
  exact key k hk
theorem hin_CF : ∀ w ∈ u_ws "AdviceWeaver$ClassFile" T_CF 4, w ∈ wAll := by
  intro w hw
  obtain ⟨k, hk, rfl⟩ := List.mem_map.mp hw
  have hk := List.mem_range.mp hk
  revert hk
  have key : ∀ k, k < 4 → u_lay "AdviceWeaver$ClassFile" T_CF k ∈ wAll := by
    intro k hk
    rcases (show k = 0 ∨ k = 1 ∨ k = 2 ∨ k = 3 by omega) with rfl | rfl | rfl | rfl
    · exact wA_13_in (List.mem_of_getElem? (i := 27) rfl)
    · exact wA_13_in (List.mem_of_getElem? (i := 28) rfl)
    · exact wA_13_in (List.mem_of_getElem? (i := 29) rfl)
    · exact wA_13_in (List.mem_of_getElem? (i := 30) rfl)
  intro hk
  exact key k hk
theorem hin_FL : ∀ w ∈ u_ws "AdviceWeaver$Flow" T_FL 3, w ∈ wAll := by
  intro w hw
  obtain ⟨k, hk, rfl⟩ := List.mem_map.mp hw
  have hk := List.mem_range.mp hk
  revert hk
  have key : ∀ k, k < 3 → u_lay "AdviceWeaver$Flow" T_FL k ∈ wAll := by
    intro k hk
    rcases (show k = 0 ∨ k = 1 ∨ k = 2 by omega) with rfl | rfl | rfl
    · exact wA_13_in (List.mem_of_getElem? (i := 31) rfl)
    · exact wA_13_in (List.mem_of_getElem? (i := 32) rfl)
    · exact wA_13_in (List.mem_of_getElem? (i := 33) rfl)
  intro hk
  exact key k hk
theorem hin_FR : ∀ w ∈ u_ws "AdviceWeaver$Frame" T_FR 5, w ∈ wAll := by
  intro w hw
  obtain ⟨k, hk, rfl⟩ := List.mem_map.mp hw
  have hk := List.mem_range.mp hk
  revert hk
  have key : ∀ k, k < 5 → u_lay "AdviceWeaver$Frame" T_FR k ∈ wAll := by
    intro k hk
    rcases (show k = 0 ∨ k = 1 ∨ k = 2 ∨ k = 3 ∨ k = 4 by omega) with rfl | rfl | rfl | rfl | rfl
    · exact wA_13_in (List.mem_of_getElem? (i := 34) rfl)
    · exact wA_13_in (List.mem_of_getElem? (i := 35) rfl)
    · exact wA_13_in (List.mem_of_getElem? (i := 36) rfl)
    · exact wA_13_in (List.mem_of_getElem? (i := 37) rfl)
    · exact wA_13_in (List.mem_of_getElem? (i := 38) rfl)
  intro hk
  exact key k hk
theorem hin_LM : ∀ w ∈ u_ws "AdviceWeaver$Loom" T_LM 8, w ∈ wAll := by
  intro w hw
  obtain ⟨k, hk, rfl⟩ := List.mem_map.mp hw
  have hk := List.mem_range.mp hk
  revert hk
  have key : ∀ k, k < 8 → u_lay "AdviceWeaver$Loom" T_LM k ∈ wAll := by
    intro k hk
    rcases (show k = 0 ∨ k = 1 ∨ k = 2 ∨ k = 3 ∨ k = 4 ∨ k = 5 ∨ k = 6 ∨ k = 7 by omega) with rfl | rfl | rfl | rfl | rfl | rfl | rfl | rfl
    · exact wA_13_in (List.mem_of_getElem? (i := 39) rfl)
    · exact wA_13_in (List.mem_of_getElem? (i := 40) rfl)
    · exact wA_13_in (List.mem_of_getElem? (i := 41) rfl)
    · exact wA_13_in (List.mem_of_getElem? (i := 42) rfl)
    · exact wA_13_in (List.mem_of_getElem? (i := 43) rfl)
    · exact wA_13_in (List.mem_of_getElem? (i := 44) rfl)
    · exact wA_13_in (List.mem_of_getElem? (i := 45) rfl)
    · exact wA_13_in (List.mem_of_getElem? (i := 46) rfl)
  intro hk
  exact key k hk
theorem hin_MC : ∀ w ∈ u_ws "AdviceWeaver$Machine" T_MC 9, w ∈ wAll := by
  intro w hw
  obtain ⟨k, hk, rfl⟩ := List.mem_map.mp hw
  have hk := List.mem_range.mp hk
  revert hk
  have key : ∀ k, k < 9 → u_lay "AdviceWeaver$Machine" T_MC k ∈ wAll := by
    intro k hk
    rcases (show k = 0 ∨ k = 1 ∨ k = 2 ∨ k = 3 ∨ k = 4 ∨ k = 5 ∨ k = 6 ∨ k = 7 ∨ k = 8 by omega) with rfl | rfl | rfl | rfl | rfl | rfl | rfl | rfl | rfl
    · exact wA_13_in (List.mem_of_getElem? (i := 47) rfl)
    · exact wA_13_in (List.mem_of_getElem? (i := 48) rfl)
    · exact wA_13_in (List.mem_of_getElem? (i := 49) rfl)
    · exact wA_14_in (List.mem_of_getElem? (i := 0) rfl)
    · exact wA_14_in (List.mem_of_getElem? (i := 1) rfl)
    · exact wA_14_in (List.mem_of_getElem? (i := 2) rfl)
    · exact wA_14_in (List.mem_of_getElem? (i := 3) rfl)
    · exact wA_14_in (List.mem_of_getElem? (i := 4) rfl)
    · exact wA_14_in (List.mem_of_getElem? (i := 5) rfl)
  intro hk
  exact key k hk
theorem hin_TR : ∀ w ∈ u_ws "AdviceWeaver$Transformer" T_TR 3, w ∈ wAll := by
  intro w hw
  obtain ⟨k, hk, rfl⟩ := List.mem_map.mp hw
  have hk := List.mem_range.mp hk
  revert hk
  have key : ∀ k, k < 3 → u_lay "AdviceWeaver$Transformer" T_TR k ∈ wAll := by
    intro k hk
    rcases (show k = 0 ∨ k = 1 ∨ k = 2 by omega) with rfl | rfl | rfl
    · exact wA_14_in (List.mem_of_getElem? (i := 6) rfl)
    · exact wA_14_in (List.mem_of_getElem? (i := 7) rfl)
    · exact wA_14_in (List.mem_of_getElem? (i := 8) rfl)
  intro hk
  exact key k hk
theorem hin_AW : ∀ w ∈ u_ws "AdviceWeaver" T_AW 12, w ∈ wAll := by
  intro w hw
  obtain ⟨k, hk, rfl⟩ := List.mem_map.mp hw
  have hk := List.mem_range.mp hk
  revert hk
  have key : ∀ k, k < 12 → u_lay "AdviceWeaver" T_AW k ∈ wAll := by
    intro k hk
    rcases (show k = 0 ∨ k = 1 ∨ k = 2 ∨ k = 3 ∨ k = 4 ∨ k = 5 ∨ k = 6 ∨ k = 7 ∨ k = 8 ∨ k = 9 ∨ k = 10 ∨ k = 11 by omega) with rfl | rfl | rfl | rfl | rfl | rfl | rfl | rfl | rfl | rfl | rfl | rfl
    · exact wA_14_in (List.mem_of_getElem? (i := 9) rfl)
    · exact wA_14_in (List.mem_of_getElem? (i := 10) rfl)
    · exact wA_14_in (List.mem_of_getElem? (i := 11) rfl)
    · exact wA_14_in (List.mem_of_getElem? (i := 12) rfl)
    · exact wA_14_in (List.mem_of_getElem? (i := 13) rfl)
    · exact wA_14_in (List.mem_of_getElem? (i := 14) rfl)
    · exact wA_14_in (List.mem_of_getElem? (i := 15) rfl)
    · exact wA_14_in (List.mem_of_getElem? (i := 16) rfl)
    · exact wA_14_in (List.mem_of_getElem? (i := 17) rfl)
    · exact wA_14_in (List.mem_of_getElem? (i := 18) rfl)
    · exact wA_14_in (List.mem_of_getElem? (i := 19) rfl)
    · exact wA_14_in (List.mem_of_getElem? (i := 20) rfl)
  intro hk
  exact key k hk
theorem hin_MD : ∀ w ∈ u_ws "AdviceWeaverModel" T_MD 43, w ∈ wAll := by
  intro w hw
  obtain ⟨k, hk, rfl⟩ := List.mem_map.mp hw
  have hk := List.mem_range.mp hk
  revert hk
  have key : ∀ k, k < 43 → u_lay "AdviceWeaverModel" T_MD k ∈ wAll := by
    intro k hk
    rcases (show k = 0 ∨ k = 1 ∨ k = 2 ∨ k = 3 ∨ k = 4 ∨ k = 5 ∨ k = 6 ∨ k = 7 ∨ k = 8 ∨ k = 9 ∨ k = 10 ∨ k = 11 ∨ k = 12 ∨ k = 13 ∨ k = 14 ∨ k = 15 ∨ k = 16 ∨ k = 17 ∨ k = 18 ∨ k = 19 ∨ k = 20 ∨ k = 21 ∨ k = 22 ∨ k = 23 ∨ k = 24 ∨ k = 25 ∨ k = 26 ∨ k = 27 ∨ k = 28 ∨ k = 29 ∨ k = 30 ∨ k = 31 ∨ k = 32 ∨ k = 33 ∨ k = 34 ∨ k = 35 ∨ k = 36 ∨ k = 37 ∨ k = 38 ∨ k = 39 ∨ k = 40 ∨ k = 41 ∨ k = 42 by omega) with rfl | rfl | rfl | rfl | rfl | rfl | rfl | rfl | rfl | rfl | rfl | rfl | rfl | rfl | rfl | rfl | rfl | rfl | rfl | rfl | rfl | rfl | rfl | rfl | rfl | rfl | rfl | rfl | rfl | rfl | rfl | rfl | rfl | rfl | rfl | rfl | rfl | rfl | rfl | rfl | rfl | rfl | rfl
    · exact wA_14_in (List.mem_of_getElem? (i := 21) rfl)
    · exact wA_14_in (List.mem_of_getElem? (i := 22) rfl)
    · exact wA_14_in (List.mem_of_getElem? (i := 23) rfl)
    · exact wA_14_in (List.mem_of_getElem? (i := 24) rfl)
    · exact wA_14_in (List.mem_of_getElem? (i := 25) rfl)
    · exact wA_14_in (List.mem_of_getElem? (i := 26) rfl)
    · exact wA_14_in (List.mem_of_getElem? (i := 27) rfl)
    · exact wA_14_in (List.mem_of_getElem? (i := 28) rfl)
    · exact wA_14_in (List.mem_of_getElem? (i := 29) rfl)
    · exact wA_14_in (List.mem_of_getElem? (i := 30) rfl)
    · exact wA_14_in (List.mem_of_getElem? (i := 31) rfl)
    · exact wA_14_in (List.mem_of_getElem? (i := 32) rfl)
    · exact wA_14_in (List.mem_of_getElem? (i := 33) rfl)
    · exact wA_14_in (List.mem_of_getElem? (i := 34) rfl)
    · exact wA_14_in (List.mem_of_getElem? (i := 35) rfl)
    · exact wA_14_in (List.mem_of_getElem? (i := 36) rfl)
    · exact wA_14_in (List.mem_of_getElem? (i := 37) rfl)
    · exact wA_14_in (List.mem_of_getElem? (i := 38) rfl)
    · exact wA_14_in (List.mem_of_getElem? (i := 39) rfl)
    · exact wA_14_in (List.mem_of_getElem? (i := 40) rfl)
    · exact wA_14_in (List.mem_of_getElem? (i := 41) rfl)
    · exact wA_14_in (List.mem_of_getElem? (i := 42) rfl)
    · exact wA_14_in (List.mem_of_getElem? (i := 43) rfl)
    · exact wA_14_in (List.mem_of_getElem? (i := 44) rfl)
    · exact wA_14_in (List.mem_of_getElem? (i := 45) rfl)
    · exact wA_14_in (List.mem_of_getElem? (i := 46) rfl)
    · exact wA_14_in (List.mem_of_getElem? (i := 47) rfl)
    · exact wA_14_in (List.mem_of_getElem? (i := 48) rfl)
    · exact wA_14_in (List.mem_of_getElem? (i := 49) rfl)
    · exact wA_15_in (List.mem_of_getElem? (i := 0) rfl)
    · exact wA_15_in (List.mem_of_getElem? (i := 1) rfl)
    · exact wA_15_in (List.mem_of_getElem? (i := 2) rfl)
    · exact wA_15_in (List.mem_of_getElem? (i := 3) rfl)
    · exact wA_15_in (List.mem_of_getElem? (i := 4) rfl)
    · exact wA_15_in (List.mem_of_getElem? (i := 5) rfl)
    · exact wA_15_in (List.mem_of_getElem? (i := 6) rfl)
    · exact wA_15_in (List.mem_of_getElem? (i := 7) rfl)
    · exact wA_15_in (List.mem_of_getElem? (i := 8) rfl)
    · exact wA_15_in (List.mem_of_getElem? (i := 9) rfl)
    · exact wA_15_in (List.mem_of_getElem? (i := 10) rfl)
    · exact wA_15_in (List.mem_of_getElem? (i := 11) rfl)
    · exact wA_15_in (List.mem_of_getElem? (i := 12) rfl)
    · exact wA_15_in (List.mem_of_getElem? (i := 13) rfl)
  intro hk
  exact key k hk
theorem wA_0_ok : (wA_0.filter (fun w => !k2_isCode w)).all goodWord = true := by decide +kernel
theorem wA_1_ok : (wA_1.filter (fun w => !k2_isCode w)).all goodWord = true := by decide +kernel
theorem wA_2_ok : (wA_2.filter (fun w => !k2_isCode w)).all goodWord = true := by decide +kernel
theorem wA_3_ok : (wA_3.filter (fun w => !k2_isCode w)).all goodWord = true := by decide +kernel
theorem wA_4_ok : (wA_4.filter (fun w => !k2_isCode w)).all goodWord = true := by decide +kernel
theorem wA_5_ok : (wA_5.filter (fun w => !k2_isCode w)).all goodWord = true := by decide +kernel
theorem wA_6_ok : (wA_6.filter (fun w => !k2_isCode w)).all goodWord = true := by decide +kernel
theorem wA_7_ok : (wA_7.filter (fun w => !k2_isCode w)).all goodWord = true := by decide +kernel
theorem wA_8_ok : (wA_8.filter (fun w => !k2_isCode w)).all goodWord = true := by decide +kernel
theorem wA_9_ok : (wA_9.filter (fun w => !k2_isCode w)).all goodWord = true := by decide +kernel
theorem wA_10_ok : (wA_10.filter (fun w => !k2_isCode w)).all goodWord = true := by decide +kernel
theorem wA_11_ok : (wA_11.filter (fun w => !k2_isCode w)).all goodWord = true := by decide +kernel
theorem wA_12_ok : (wA_12.filter (fun w => !k2_isCode w)).all goodWord = true := by decide +kernel
theorem wA_13_ok : (wA_13.filter (fun w => !k2_isCode w)).all goodWord = true := by decide +kernel
theorem wA_14_ok : (wA_14.filter (fun w => !k2_isCode w)).all goodWord = true := by decide +kernel
theorem wA_15_ok : (wA_15.filter (fun w => !k2_isCode w)).all goodWord = true := by decide +kernel
theorem gd_all : GoodIn wAll wAll := by
  intro w hw
  refine ⟨hw, ?_⟩
  by_cases hc : k2_isCode w = true
  · cases w <;> first | (simp [k2_isCode] at hc; done) | exact Or.inl rfl
  · have key : ∀ l : List Cond, (l.filter (fun w => !k2_isCode w)).all goodWord = true → w ∈ l → (w.onTables && w.keeps) = true ∨ ∃ ty, w = .arrayClass ty := fun l h hm => good_of_word (List.all_eq_true.mp h w (List.mem_filter.mpr ⟨hm, by simpa using hc⟩))
    unfold wAll at hw
    rcases List.mem_append.mp hw with hw | hw
    · exact key _ wA_0_ok hw
    rcases List.mem_append.mp hw with hw | hw
    · exact key _ wA_1_ok hw
    rcases List.mem_append.mp hw with hw | hw
    · exact key _ wA_2_ok hw
    rcases List.mem_append.mp hw with hw | hw
    · exact key _ wA_3_ok hw
    rcases List.mem_append.mp hw with hw | hw
    · exact key _ wA_4_ok hw
    rcases List.mem_append.mp hw with hw | hw
    · exact key _ wA_5_ok hw
    rcases List.mem_append.mp hw with hw | hw
    · exact key _ wA_6_ok hw
    rcases List.mem_append.mp hw with hw | hw
    · exact key _ wA_7_ok hw
    rcases List.mem_append.mp hw with hw | hw
    · exact key _ wA_8_ok hw
    rcases List.mem_append.mp hw with hw | hw
    · exact key _ wA_9_ok hw
    rcases List.mem_append.mp hw with hw | hw
    · exact key _ wA_10_ok hw
    rcases List.mem_append.mp hw with hw | hw
    · exact key _ wA_11_ok hw
    rcases List.mem_append.mp hw with hw | hw
    · exact key _ wA_12_ok hw
    rcases List.mem_append.mp hw with hw | hw
    · exact key _ wA_13_ok hw
    rcases List.mem_append.mp hw with hw | hw
    · exact key _ wA_14_ok hw
    exact key _ wA_15_ok hw
theorem gd_V {own C : String} {idx : Nat} {y : MethodName} {b : ByteArray} {mL : Nat} {ret : Option FieldType} (h1 : Cond.methodLink own idx y ∈ wAll) (h2 : Cond.instanceMethod y ∈ wAll) (h3 : Cond.selects C y y ∈ wAll) (h4 : Cond.initialized C ∈ wAll) (h5 : Cond.code y b mL ret ∈ wAll) : GoodIn wAll (wsV own idx C y (.code y b mL ret :: wAll)) := by
  intro w hw
  simp only [wsV, List.cons_append, List.nil_append, List.mem_cons] at hw
  rcases hw with rfl | rfl | rfl | rfl | rfl | hw
  · exact gd_all _ h1
  · exact gd_all _ h2
  · exact gd_all _ h3
  · exact gd_all _ h4
  · exact gd_all _ h5
  · exact gd_all _ hw
theorem gd_S {own : String} {idx : Nat} {y : MethodName} {b : ByteArray} {mL : Nat} {ret : Option FieldType} (h1 : Cond.methodLink own idx y ∈ wAll) (h2 : Cond.static y ∈ wAll) (h4 : Cond.initialized y.cls ∈ wAll) (h5 : Cond.code y b mL ret ∈ wAll) : GoodIn wAll (va_wsS own idx y (.code y b mL ret :: wAll)) := by
  intro w hw
  simp only [va_wsS, List.cons_append, List.nil_append, List.mem_cons] at hw
  rcases hw with rfl | rfl | rfl | rfl | hw
  · exact gd_all _ h1
  · exact gd_all _ h2
  · exact gd_all _ h4
  · exact gd_all _ h5
  · exact gd_all _ hw
abbrev w_AW_init : List Cond := .code y_AW_init b_AW_init 2 none :: wAll
abbrev w_CF_init : List Cond := .code y_CF_init b_CF_init 1 none :: wAll
abbrev w_B_init : List Cond := .code y_B_init b_B_init 3 none :: wAll
abbrev w_TR_init : List Cond := .code y_TR_init b_TR_init 1 none :: wAll
abbrev w_FL_init : List Cond := .code y_FL_init b_FL_init 1 none :: wAll
abbrev w_LM_init : List Cond := .code y_LM_init b_LM_init 1 none :: wAll
abbrev w_MC_init : List Cond := .code y_MC_init b_MC_init 2 none :: wAll
abbrev w_FR_init : List Cond := .code y_FR_init b_FR_init 1 none :: wAll
abbrev w_AW_put : List Cond := .code y_AW_put b_AW_put 3 (some .boolean) :: wAll
abbrev w_CF_append : List Cond := .code y_CF_append b_CF_append 4 (some .boolean) :: wAll
abbrev w_AW_clear : List Cond := .code y_AW_clear b_AW_clear 1 none :: wAll
abbrev w_CF_empty : List Cond := .code y_CF_empty b_CF_empty 1 none :: wAll
abbrev w_AW_load : List Cond := .code y_AW_load b_AW_load 3 (some .int) :: wAll
abbrev w_CF_readInto : List Cond := .code y_CF_readInto b_CF_readInto 4 (some .int) :: wAll
abbrev w_CF_take : List Cond := .code y_CF_take b_CF_take 3 (some .int) :: wAll
abbrev w_CF_readMethod : List Cond := .code y_CF_readMethod b_CF_readMethod 5 none :: wAll
abbrev w_CF_readHandlers : List Cond := .code y_CF_readHandlers b_CF_readHandlers 7 none :: wAll
abbrev w_B_addHandler : List Cond := .code y_B_addHandler b_B_addHandler 6 none :: wAll
abbrev w_B_isWellFormed : List Cond := .code y_B_isWellFormed b_B_isWellFormed 5 (some .boolean) :: wAll
abbrev w_B_findInstructions : List Cond := .code y_B_findInstructions b_B_findInstructions 3 (some .boolean) :: wAll
abbrev w_OP_size : List Cond := .code y_OP_size b_OP_size 1 (some .int) :: wAll
abbrev w_B_begins : List Cond := .code y_B_begins b_B_begins 2 (some .boolean) :: wAll
abbrev w_B_numbersHold : List Cond := .code y_B_numbersHold b_B_numbersHold 5 (some .boolean) :: wAll
abbrev w_B_byteAt : List Cond := .code y_B_byteAt b_B_byteAt 2 (some .int) :: wAll
abbrev w_OP_isBranch : List Cond := .code y_OP_isBranch b_OP_isBranch 1 (some .boolean) :: wAll
abbrev w_OP_isShortBranch : List Cond := .code y_OP_isShortBranch b_OP_isShortBranch 1 (some .boolean) :: wAll
abbrev w_OP_isWideBranch : List Cond := .code y_OP_isWideBranch b_OP_isWideBranch 1 (some .boolean) :: wAll
abbrev w_B_wayAt : List Cond := .code y_B_wayAt b_B_wayAt 3 (some .int) :: wAll
abbrev w_OP_signedByte : List Cond := .code y_OP_signedByte b_OP_signedByte 1 (some .int) :: wAll
abbrev w_OP_isShortWay : List Cond := .code y_OP_isShortWay b_OP_isShortWay 1 (some .boolean) :: wAll
abbrev w_OP_isWovenOnly : List Cond := .code y_OP_isWovenOnly b_OP_isWovenOnly 1 (some .boolean) :: wAll
abbrev w_B_part : List Cond := .code y_B_part b_B_part 3 (some .int) :: wAll
abbrev w_FL_explore : List Cond := .code y_FL_explore b_FL_explore 5 (some .boolean) :: wAll
abbrev w_FL_arrive : List Cond := .code y_FL_arrive b_FL_arrive 5 none :: wAll
abbrev w_B_isReached : List Cond := .code y_B_isReached b_B_isReached 2 (some .boolean) :: wAll
abbrev w_FL_leave : List Cond := .code y_FL_leave b_FL_leave 13 none :: wAll
abbrev w_OP_takes : List Cond := .code y_OP_takes b_OP_takes 1 (some .int) :: wAll
abbrev w_OP_puts : List Cond := .code y_OP_puts b_OP_puts 1 (some .int) :: wAll
abbrev w_OP_goesOn : List Cond := .code y_OP_goesOn b_OP_goesOn 1 (some .boolean) :: wAll
abbrev w_B_covers : List Cond := .code y_B_covers b_B_covers 4 (some .boolean) :: wAll
abbrev w_B_become : List Cond := .code y_B_become b_B_become 2 none :: wAll
abbrev w_AW_forgetFailures : List Cond := .code y_AW_forgetFailures b_AW_forgetFailures 2 none :: wAll
abbrev w_AW_transformer : List Cond := .code y_AW_transformer b_AW_transformer 6 (some .int) :: wAll
abbrev w_TR_set : List Cond := .code y_TR_set b_TR_set 4 none :: wAll
abbrev w_AW_unchain : List Cond := .code y_AW_unchain b_AW_unchain 1 none :: wAll
abbrev w_AW_weave : List Cond := .code y_AW_weave b_AW_weave 3 (some .int) :: wAll
abbrev w_AW_sendAlongChain : List Cond := .code y_AW_sendAlongChain b_AW_sendAlongChain 4 (some .int) :: wAll
abbrev w_TR_fits : List Cond := .code y_TR_fits b_TR_fits 2 (some .boolean) :: wAll
abbrev w_LM_transform : List Cond := .code y_LM_transform b_LM_transform 6 (some .boolean) :: wAll
abbrev w_LM_planCover : List Cond := .code y_LM_planCover b_LM_planCover 3 none :: wAll
abbrev w_LM_findLeaders : List Cond := .code y_LM_findLeaders b_LM_findLeaders 4 none :: wAll
abbrev w_AR_fill : List Cond := .code y_AR_fill b_AR_fill 4 none :: wAll
abbrev w_LM_addLeader : List Cond := .code y_LM_addLeader b_LM_addLeader 2 none :: wAll
abbrev w_LM_addItem : List Cond := .code y_LM_addItem b_LM_addItem 4 none :: wAll
abbrev w_LM_addOldItem : List Cond := .code y_LM_addOldItem b_LM_addOldItem 3 none :: wAll
abbrev w_LM_planTrace : List Cond := .code y_LM_planTrace b_LM_planTrace 3 none :: wAll
abbrev w_LM_layOut : List Cond := .code y_LM_layOut b_LM_layOut 2 none :: wAll
abbrev w_LM_countPlaces : List Cond := .code y_LM_countPlaces b_LM_countPlaces 2 none :: wAll
abbrev w_LM_widenWhereNeeded : List Cond := .code y_LM_widenWhereNeeded b_LM_widenWhereNeeded 3 (some .boolean) :: wAll
abbrev w_LM_newWay : List Cond := .code y_LM_newWay b_LM_newWay 2 (some .int) :: wAll
abbrev w_LM_newPlace : List Cond := .code y_LM_newPlace b_LM_newPlace 2 (some .int) :: wAll
abbrev w_LM_writeCode : List Cond := .code y_LM_writeCode b_LM_writeCode 3 none :: wAll
abbrev w_LM_writeWay : List Cond := .code y_LM_writeWay b_LM_writeWay 5 none :: wAll
abbrev w_LM_writeNumber : List Cond := .code y_LM_writeNumber b_LM_writeNumber 3 none :: wAll
abbrev w_LM_copyNumbers : List Cond := .code y_LM_copyNumbers b_LM_copyNumbers 4 none :: wAll
abbrev w_LM_writeHandlers : List Cond := .code y_LM_writeHandlers b_LM_writeHandlers 5 none :: wAll
abbrev w_AW_failed : List Cond := .code y_AW_failed b_AW_failed 3 (some .boolean) :: wAll
abbrev w_AW_run : List Cond := .code y_AW_run b_AW_run 6 (some .int) :: wAll
abbrev w_AW_bodyOf : List Cond := .code y_AW_bodyOf b_AW_bodyOf 3 (some (.object "AdviceWeaver$Body")) :: wAll
abbrev w_MC_execute : List Cond := .code y_MC_execute b_MC_execute 7 (some .int) :: wAll
abbrev w_FR_begin : List Cond := .code y_FR_begin b_FR_begin 5 none :: wAll
abbrev w_MC_advance : List Cond := .code y_MC_advance b_MC_advance 5 none :: wAll
abbrev w_MC_end : List Cond := .code y_MC_end b_MC_end 3 none :: wAll
abbrev w_MC_enter : List Cond := .code y_MC_enter b_MC_enter 7 none :: wAll
abbrev w_FR_pop : List Cond := .code y_FR_pop b_FR_pop 1 (some .int) :: wAll
abbrev w_MC_giveBack : List Cond := .code y_MC_giveBack b_MC_giveBack 3 none :: wAll
abbrev w_FR_push : List Cond := .code y_FR_push b_FR_push 2 none :: wAll
abbrev w_MC_raise : List Cond := .code y_MC_raise b_MC_raise 5 none :: wAll
abbrev w_B_catcherOf : List Cond := .code y_B_catcherOf b_B_catcherOf 5 (some .int) :: wAll
abbrev w_FR_goOnWith : List Cond := .code y_FR_goOnWith b_FR_goOnWith 3 none :: wAll
abbrev w_MC_divide : List Cond := .code y_MC_divide b_MC_divide 5 none :: wAll
abbrev w_MC_wayOn : List Cond := .code y_MC_wayOn b_MC_wayOn 5 (some .int) :: wAll
abbrev w_MC_calculate : List Cond := .code y_MC_calculate b_MC_calculate 5 none :: wAll
abbrev w_MC_noteMark : List Cond := .code y_MC_noteMark b_MC_noteMark 3 none :: wAll
abbrev w_MC_noteProbe : List Cond := .code y_MC_noteProbe b_MC_noteProbe 3 none :: wAll
abbrev w_MC_move : List Cond := .code y_MC_move b_MC_move 5 none :: wAll
abbrev w_FR_getLocal : List Cond := .code y_FR_getLocal b_FR_getLocal 2 (some .int) :: wAll
abbrev w_FR_setLocal : List Cond := .code y_FR_setLocal b_FR_setLocal 3 none :: wAll
abbrev w_FR_doubleTop : List Cond := .code y_FR_doubleTop b_FR_doubleTop 2 none :: wAll
abbrev w_AW_value : List Cond := .code y_AW_value b_AW_value 1 (some .int) :: wAll
abbrev w_AW_used : List Cond := .code y_AW_used b_AW_used 1 (some .int) :: wAll
abbrev w_AW_marks : List Cond := .code y_AW_marks b_AW_marks 1 (some .int) :: wAll
abbrev w_AW_mark : List Cond := .code y_AW_mark b_AW_mark 2 (some .int) :: wAll
abbrev w_MC_markAt : List Cond := .code y_MC_markAt b_MC_markAt 2 (some .int) :: wAll
abbrev w_AW_probe : List Cond := .code y_AW_probe b_AW_probe 3 (some .int) :: wAll
abbrev w_MC_probesAt : List Cond := .code y_MC_probesAt b_MC_probesAt 3 (some .int) :: wAll
abbrev w_AW_shape : List Cond := .code y_AW_shape b_AW_shape 5 (some .int) :: wAll
abbrev w_AW_code : List Cond := .code y_AW_code b_AW_code 5 (some .int) :: wAll
abbrev w_AW_handler : List Cond := .code y_AW_handler b_AW_handler 6 (some .int) :: wAll
abbrev w_AW_depth : List Cond := .code y_AW_depth b_AW_depth 5 (some .int) :: wAll
abbrev w_MD_init : List Cond := .code y_MD_init b_MD_init 1 none :: wAll
abbrev w_MD_put : List Cond := .code y_MD_put b_MD_put 4 (some .boolean) :: wAll
abbrev w_MD_outside : List Cond := .code y_MD_outside b_MD_outside 3 (some .boolean) :: wAll
abbrev w_MD_clear : List Cond := .code y_MD_clear b_MD_clear 1 none :: wAll
abbrev w_MD_load : List Cond := .code y_MD_load b_MD_load 2 (some .int) :: wAll
abbrev w_MD_next : List Cond := .code y_MD_next b_MD_next 4 (some .int) :: wAll
abbrev w_MD_readMethod : List Cond := .code y_MD_readMethod b_MD_readMethod 3 none :: wAll
abbrev w_MD_formed : List Cond := .code y_MD_formed b_MD_formed 5 (some .boolean) :: wAll
abbrev w_MD_divide : List Cond := .code y_MD_divide b_MD_divide 4 (some .boolean) :: wAll
abbrev w_MD_op : List Cond := .code y_MD_op b_MD_op 3 (some .int) :: wAll
abbrev w_MD_sizeOf : List Cond := .code y_MD_sizeOf b_MD_sizeOf 1 (some .int) :: wAll
abbrev w_MD_branches : List Cond := .code y_MD_branches b_MD_branches 1 (some .boolean) :: wAll
abbrev w_MD_target : List Cond := .code y_MD_target b_MD_target 3 (some .int) :: wAll
abbrev w_MD_signed : List Cond := .code y_MD_signed b_MD_signed 3 (some .int) :: wAll
abbrev w_MD_isPlace : List Cond := .code y_MD_isPlace b_MD_isPlace 3 (some .boolean) :: wAll
abbrev w_MD_explore : List Cond := .code y_MD_explore b_MD_explore 3 (some .boolean) :: wAll
abbrev w_MD_reach : List Cond := .code y_MD_reach b_MD_reach 6 none :: wAll
abbrev w_MD_follow : List Cond := .code y_MD_follow b_MD_follow 8 none :: wAll
abbrev w_MD_takes : List Cond := .code y_MD_takes b_MD_takes 4 (some .int) :: wAll
abbrev w_MD_with : List Cond := .code y_MD_with b_MD_with 8 (some .long) :: wAll
abbrev w_MD_puts : List Cond := .code y_MD_puts b_MD_puts 1 (some .int) :: wAll
abbrev w_MD_ends : List Cond := .code y_MD_ends b_MD_ends 1 (some .boolean) :: wAll
abbrev w_MD_copy : List Cond := .code y_MD_copy b_MD_copy 4 none :: wAll
abbrev w_MD_transformer : List Cond := .code y_MD_transformer b_MD_transformer 4 (some .int) :: wAll
abbrev w_MD_unchain : List Cond := .code y_MD_unchain b_MD_unchain 1 none :: wAll
abbrev w_MD_weave : List Cond := .code y_MD_weave b_MD_weave 6 (some .int) :: wAll
abbrev w_MD_transform : List Cond := .code y_MD_transform b_MD_transform 7 (some .boolean) :: wAll
abbrev w_MD_choose : List Cond := .code y_MD_choose b_MD_choose 5 none :: wAll
abbrev w_MD_lay : List Cond := .code y_MD_lay b_MD_lay 6 (some .boolean) :: wAll
abbrev w_MD_emit : List Cond := .code y_MD_emit b_MD_emit 2 none :: wAll
abbrev w_MD_emitOne : List Cond := .code y_MD_emitOne b_MD_emitOne 7 none :: wAll
abbrev w_MD_failed : List Cond := .code y_MD_failed b_MD_failed 3 (some .boolean) :: wAll
abbrev w_MD_run : List Cond := .code y_MD_run b_MD_run 7 (some .int) :: wAll
abbrev w_MD_enter : List Cond := .code y_MD_enter b_MD_enter 3 none :: wAll
abbrev w_MD_one : List Cond := .code y_MD_one b_MD_one 5 none :: wAll
abbrev w_MD_branch : List Cond := .code y_MD_branch b_MD_branch 6 none :: wAll
abbrev w_MD_pop : List Cond := .code y_MD_pop b_MD_pop 2 (some .int) :: wAll
abbrev w_MD_calculate : List Cond := .code y_MD_calculate b_MD_calculate 4 none :: wAll
abbrev w_MD_raise : List Cond := .code y_MD_raise b_MD_raise 5 none :: wAll
abbrev w_MD_push : List Cond := .code y_MD_push b_MD_push 3 none :: wAll
abbrev w_MD_call : List Cond := .code y_MD_call b_MD_call 5 none :: wAll
abbrev w_MD_giveBack : List Cond := .code y_MD_giveBack b_MD_giveBack 2 none :: wAll
abbrev w_MD_plain : List Cond := .code y_MD_plain b_MD_plain 6 none :: wAll
abbrev w_MD_value : List Cond := .code y_MD_value b_MD_value 1 (some .int) :: wAll
abbrev w_MD_used : List Cond := .code y_MD_used b_MD_used 1 (some .int) :: wAll
abbrev w_MD_marks : List Cond := .code y_MD_marks b_MD_marks 1 (some .int) :: wAll
abbrev w_MD_mark : List Cond := .code y_MD_mark b_MD_mark 2 (some .int) :: wAll
abbrev w_MD_probe : List Cond := .code y_MD_probe b_MD_probe 3 (some .int) :: wAll
abbrev w_MD_shape : List Cond := .code y_MD_shape b_MD_shape 8 (some .int) :: wAll
abbrev w_MD_slot : List Cond := .code y_MD_slot b_MD_slot 3 (some .int) :: wAll
abbrev w_MD_code : List Cond := .code y_MD_code b_MD_code 5 (some .int) :: wAll
abbrev w_MD_handler : List Cond := .code y_MD_handler b_MD_handler 6 (some .int) :: wAll
abbrev w_MD_depth : List Cond := .code y_MD_depth b_MD_depth 5 (some .int) :: wAll
