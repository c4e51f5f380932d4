/-! NAMES: classes, fields, methods, words of the tables -/
def T_Typed : u_T := fun k => match k with
  | 0 => ("GlobProfile$Typed", "characters", "[C", true)
  | _ => ("GlobProfile$Typed", "length", "I", false)
def ty_Typed : Nat → FieldType := fun k => match k with
  | 0 => .array .char
  | _ => .int
theorem hnn_Typed : ∀ a, a < 2 → ∀ b, b < 2 → a ≠ b → (T_Typed a).2.1 ≠ (T_Typed b).2.1 := by decide +kernel
theorem hty_Typed : ∀ k, k < 2 → parseFieldDescriptor (T_Typed k).2.2.1 = some (ty_Typed k) := by decide +kernel
def T_Reader : u_T := fun k => match k with
  | 0 => ("GlobProfile$GlobReader", "text", "LGlobProfile$Typed;", true)
  | 1 => ("GlobProfile$GlobReader", "glob", "LGlobProfile$Glob;", true)
  | 2 => ("GlobProfile$GlobReader", "at", "I", false)
  | _ => ("GlobProfile$GlobReader", "fault", "I", false)
def ty_Reader : Nat → FieldType := fun k => match k with
  | 0 => .object "GlobProfile$Typed"
  | 1 => .object "GlobProfile$Glob"
  | 2 => .int
  | _ => .int
theorem hnn_Reader : ∀ a, a < 4 → ∀ b, b < 4 → a ≠ b → (T_Reader a).2.1 ≠ (T_Reader b).2.1 := by decide +kernel
theorem hty_Reader : ∀ k, k < 4 → parseFieldDescriptor (T_Reader k).2.2.1 = some (ty_Reader k) := by decide +kernel
def T_Glob : u_T := fun k => match k with
  | 0 => ("GlobProfile$Glob", "behind", "[J", true)
  | 1 => ("GlobProfile$Glob", "readersOf", "[J", true)
  | 2 => ("GlobProfile$Glob", "endsBefore", "[J", true)
  | 3 => ("GlobProfile$Glob", "endsOfRows", "[J", true)
  | 4 => ("GlobProfile$Glob", "rowCount", "[I", true)
  | 5 => ("GlobProfile$Glob", "pieceCount", "I", false)
  | 6 => ("GlobProfile$Glob", "depth", "I", false)
  | _ => ("GlobProfile$Glob", "ends", "J", false)
def ty_Glob : Nat → FieldType := fun k => match k with
  | 0 => .array .long
  | 1 => .array .long
  | 2 => .array .long
  | 3 => .array .long
  | 4 => .array .int
  | 5 => .int
  | 6 => .int
  | _ => .long
theorem hnn_Glob : ∀ a, a < 8 → ∀ b, b < 8 → a ≠ b → (T_Glob a).2.1 ≠ (T_Glob b).2.1 := by decide +kernel
theorem hty_Glob : ∀ k, k < 8 → parseFieldDescriptor (T_Glob k).2.2.1 = some (ty_Glob k) := by decide +kernel
def T_Rule : u_T := fun k => match k with
  | 0 => ("GlobProfile$Rule", "glob", "LGlobProfile$Glob;", true)
  | 1 => ("GlobProfile$Rule", "allows", "Z", false)
  | _ => ("GlobProfile$Rule", "permissions", "I", false)
def ty_Rule : Nat → FieldType := fun k => match k with
  | 0 => .object "GlobProfile$Glob"
  | 1 => .boolean
  | _ => .int
theorem hnn_Rule : ∀ a, a < 3 → ∀ b, b < 3 → a ≠ b → (T_Rule a).2.1 ≠ (T_Rule b).2.1 := by decide +kernel
theorem hty_Rule : ∀ k, k < 3 → parseFieldDescriptor (T_Rule k).2.2.1 = some (ty_Rule k) := by decide +kernel
def T_Union : u_T := fun k => match k with
  | 0 => ("GlobProfile$Union", "behind", "[J", true)
  | 1 => ("GlobProfile$Union", "readersOf", "[J", true)
  | 2 => ("GlobProfile$Union", "columnOf", "[I", true)
  | 3 => ("GlobProfile$Union", "readersOfColumn", "[J", true)
  | 4 => ("GlobProfile$Union", "endsOf", "[J", true)
  | 5 => ("GlobProfile$Union", "allowedBy", "[I", true)
  | 6 => ("GlobProfile$Union", "deniedBy", "[I", true)
  | 7 => ("GlobProfile$Union", "pieceCount", "I", false)
  | 8 => ("GlobProfile$Union", "ruleCount", "I", false)
  | _ => ("GlobProfile$Union", "columnCount", "I", false)
def ty_Union : Nat → FieldType := fun k => match k with
  | 0 => .array .long
  | 1 => .array .long
  | 2 => .array .int
  | 3 => .array .long
  | 4 => .array .long
  | 5 => .array .int
  | 6 => .array .int
  | 7 => .int
  | 8 => .int
  | _ => .int
theorem hnn_Union : ∀ a, a < 10 → ∀ b, b < 10 → a ≠ b → (T_Union a).2.1 ≠ (T_Union b).2.1 := by decide +kernel
theorem hty_Union : ∀ k, k < 10 → parseFieldDescriptor (T_Union k).2.2.1 = some (ty_Union k) := by decide +kernel
def T_Graph : u_T := fun k => match k with
  | 0 => ("GlobProfile$SetGraph", "union", "LGlobProfile$Union;", true)
  | 1 => ("GlobProfile$SetGraph", "found", "[J", true)
  | 2 => ("GlobProfile$SetGraph", "leads", "[I", true)
  | 3 => ("GlobProfile$SetGraph", "slots", "[I", true)
  | _ => ("GlobProfile$SetGraph", "count", "I", false)
def ty_Graph : Nat → FieldType := fun k => match k with
  | 0 => .object "GlobProfile$Union"
  | 1 => .array .long
  | 2 => .array .int
  | 3 => .array .int
  | _ => .int
theorem hnn_Graph : ∀ a, a < 5 → ∀ b, b < 5 → a ≠ b → (T_Graph a).2.1 ≠ (T_Graph b).2.1 := by decide +kernel
theorem hty_Graph : ∀ k, k < 5 → parseFieldDescriptor (T_Graph k).2.2.1 = some (ty_Graph k) := by decide +kernel
def T_Table : u_T := fun k => match k with
  | 0 => ("GlobProfile$Table", "union", "LGlobProfile$Union;", true)
  | 1 => ("GlobProfile$Table", "graph", "LGlobProfile$SetGraph;", true)
  | 2 => ("GlobProfile$Table", "kindOf", "[I", true)
  | 3 => ("GlobProfile$Table", "finerKindOf", "[I", true)
  | 4 => ("GlobProfile$Table", "leaderOf", "[I", true)
  | 5 => ("GlobProfile$Table", "stateOfKind", "[I", true)
  | 6 => ("GlobProfile$Table", "setOfState", "[I", true)
  | 7 => ("GlobProfile$Table", "permissionsOf", "[I", true)
  | 8 => ("GlobProfile$Table", "kindCount", "I", false)
  | _ => ("GlobProfile$Table", "stateCount", "I", false)
def ty_Table : Nat → FieldType := fun k => match k with
  | 0 => .object "GlobProfile$Union"
  | 1 => .object "GlobProfile$SetGraph"
  | 2 => .array .int
  | 3 => .array .int
  | 4 => .array .int
  | 5 => .array .int
  | 6 => .array .int
  | 7 => .array .int
  | 8 => .int
  | _ => .int
theorem hnn_Table : ∀ a, a < 10 → ∀ b, b < 10 → a ≠ b → (T_Table a).2.1 ≠ (T_Table b).2.1 := by decide +kernel
theorem hty_Table : ∀ k, k < 10 → parseFieldDescriptor (T_Table k).2.2.1 = some (ty_Table k) := by decide +kernel
def T_G : u_T := fun k => match k with
  | 0 => ("GlobProfile", "typed", "LGlobProfile$Typed;", true)
  | 1 => ("GlobProfile", "reader", "LGlobProfile$GlobReader;", true)
  | 2 => ("GlobProfile", "slots", "[LGlobProfile$Rule;", true)
  | 3 => ("GlobProfile", "union", "LGlobProfile$Union;", true)
  | 4 => ("GlobProfile", "table", "LGlobProfile$Table;", true)
  | 5 => ("GlobProfile", "ruleCount", "I", false)
  | _ => ("GlobProfile", "walkState", "I", false)
def ty_G : Nat → FieldType := fun k => match k with
  | 0 => .object "GlobProfile$Typed"
  | 1 => .object "GlobProfile$GlobReader"
  | 2 => .array (.object "GlobProfile$Rule")
  | 3 => .object "GlobProfile$Union"
  | 4 => .object "GlobProfile$Table"
  | 5 => .int
  | _ => .int
theorem hnn_G : ∀ a, a < 7 → ∀ b, b < 7 → a ≠ b → (T_G a).2.1 ≠ (T_G b).2.1 := by decide +kernel
theorem hty_G : ∀ k, k < 7 → parseFieldDescriptor (T_G k).2.2.1 = some (ty_G k) := by decide +kernel
def T_M : u_T := fun k => match k with
  | 0 => ("GlobProfileModel", "typed", "[I", true)
  | 1 => ("GlobProfileModel", "size", "I", false)
  | 2 => ("GlobProfileModel", "rules", "I", false)
  | 3 => ("GlobProfileModel", "glob", "[I", true)
  | 4 => ("GlobProfileModel", "length", "[I", true)
  | 5 => ("GlobProfileModel", "allows", "[Z", true)
  | 6 => ("GlobProfileModel", "permissions", "[I", true)
  | 7 => ("GlobProfileModel", "many", "[I", true)
  | 8 => ("GlobProfileModel", "items", "I", false)
  | 9 => ("GlobProfileModel", "sort", "[I", true)
  | 10 => ("GlobProfileModel", "piece", "[I", true)
  | 11 => ("GlobProfileModel", "onward", "[I", true)
  | 12 => ("GlobProfileModel", "open", "[I", true)
  | 13 => ("GlobProfileModel", "seen", "[Z", true)
  | 14 => ("GlobProfileModel", "stack", "[I", true)
  | 15 => ("GlobProfileModel", "pieces", "I", false)
  | 16 => ("GlobProfileModel", "bytes", "[J", true)
  | 17 => ("GlobProfileModel", "star", "[Z", true)
  | 18 => ("GlobProfileModel", "behind", "[J", true)
  | 19 => ("GlobProfileModel", "ends", "[Z", true)
  | 20 => ("GlobProfileModel", "ruleOf", "[I", true)
  | 21 => ("GlobProfileModel", "first", "J", false)
  | 22 => ("GlobProfileModel", "emptyOf", "I", false)
  | 23 => ("GlobProfileModel", "classes", "I", false)
  | 24 => ("GlobProfileModel", "classOf", "[I", true)
  | 25 => ("GlobProfileModel", "example", "[I", true)
  | 26 => ("GlobProfileModel", "sets", "I", false)
  | 27 => ("GlobProfileModel", "set", "[J", true)
  | 28 => ("GlobProfileModel", "given", "[I", true)
  | 29 => ("GlobProfileModel", "kind", "[I", true)
  | 30 => ("GlobProfileModel", "finer", "[I", true)
  | 31 => ("GlobProfileModel", "leads", "[I", true)
  | 32 => ("GlobProfileModel", "states", "I", false)
  | 33 => ("GlobProfileModel", "stateOf", "[I", true)
  | 34 => ("GlobProfileModel", "setOf", "[I", true)
  | _ => ("GlobProfileModel", "walker", "I", false)
def ty_M : Nat → FieldType := fun k => match k with
  | 0 => .array .int
  | 1 => .int
  | 2 => .int
  | 3 => .array .int
  | 4 => .array .int
  | 5 => .array .boolean
  | 6 => .array .int
  | 7 => .array .int
  | 8 => .int
  | 9 => .array .int
  | 10 => .array .int
  | 11 => .array .int
  | 12 => .array .int
  | 13 => .array .boolean
  | 14 => .array .int
  | 15 => .int
  | 16 => .array .long
  | 17 => .array .boolean
  | 18 => .array .long
  | 19 => .array .boolean
  | 20 => .array .int
  | 21 => .long
  | 22 => .int
  | 23 => .int
  | 24 => .array .int
  | 25 => .array .int
  | 26 => .int
  | 27 => .array .long
  | 28 => .array .int
  | 29 => .array .int
  | 30 => .array .int
  | 31 => .array .int
  | 32 => .int
  | 33 => .array .int
  | 34 => .array .int
  | _ => .int
theorem hnn_M : ∀ a, a < 36 → ∀ b, b < 36 → a ≠ b → (T_M a).2.1 ≠ (T_M b).2.1 := by decide +kernel
theorem hty_M : ∀ k, k < 36 → parseFieldDescriptor (T_M k).2.2.1 = some (ty_M k) := by decide +kernel
abbrev classes : List vw_C := [("GlobProfile$Typed", T_Typed, 2), ("GlobProfile$GlobReader", T_Reader, 4), ("GlobProfile$Glob", T_Glob, 8), ("GlobProfile$Rule", T_Rule, 3), ("GlobProfile$Union", T_Union, 10), ("GlobProfile$SetGraph", T_Graph, 5), ("GlobProfile$Table", T_Table, 10), ("GlobProfile", T_G, 7), ("GlobProfileModel", T_M, 36)]
def TT : List Cond := lw_tbl.filter goodWord
def isNest : Cond → Bool
  | .fieldLinkNest .. => true
  | .methodLinkNest .. => true
  | _ => false
def NW : List Cond := tables_1.filter isNest
theorem TT_ok : ∀ w ∈ TT, goodWord w = true := fun w h => (List.mem_filter.mp h).2
theorem NW_nest : ∀ w ∈ NW, isNest w = true := fun w h => (List.mem_filter.mp h).2
theorem in_1 {c : Cond} (h : c ∈ tables_1_1) : c ∈ tables_1 := List.mem_append_left _ h
theorem in_2 {c : Cond} (h : c ∈ tables_1_2) : c ∈ tables_1 := List.mem_append_right _ (List.mem_append_left _ h)
theorem in_3 {c : Cond} (h : c ∈ tables_1_3) : c ∈ tables_1 := List.mem_append_right _ (List.mem_append_right _ (List.mem_append_left _ h))
theorem in_4 {c : Cond} (h : c ∈ tables_1_4) : c ∈ tables_1 := List.mem_append_right _ (List.mem_append_right _ (List.mem_append_right _ h))
theorem in_T {c : Cond} (h : c ∈ tables_1) (g : goodWord c = true) : c ∈ TT := List.mem_filter.mpr ⟨List.mem_append_right _ h, g⟩
theorem in_P {c : Cond} (h : c ∈ k2_sels lw_privs) (g : goodWord c = true) : c ∈ TT := List.mem_filter.mpr ⟨List.mem_append_left _ h, g⟩
theorem in_N {c : Cond} (h : c ∈ tables_1) (g : isNest c = true) : c ∈ NW := List.mem_filter.mpr ⟨h, g⟩
abbrev b_M_in : ByteArray := prog_10_method_2_code
def y_M_in : MethodName := ⟨"GlobProfileModel", "in", "(III)Z"⟩
abbrev b_M_type : ByteArray := prog_10_method_3_code
def y_M_type : MethodName := ⟨"GlobProfileModel", "type", "(II)Z"⟩
abbrev b_M_item : ByteArray := prog_10_method_4_code
def y_M_item : MethodName := ⟨"GlobProfileModel", "item", "(II)V"⟩
abbrev b_M_setByte : ByteArray := prog_10_method_5_code
def y_M_setByte : MethodName := ⟨"GlobProfileModel", "setByte", "(IIZ)V"⟩
abbrev b_M_hasByte : ByteArray := prog_10_method_6_code
def y_M_hasByte : MethodName := ⟨"GlobProfileModel", "hasByte", "(II)Z"⟩
abbrev b_M_newPiece : ByteArray := prog_10_method_7_code
def y_M_newPiece : MethodName := ⟨"GlobProfileModel", "newPiece", "(Z)I"⟩
abbrev b_M_isElement : ByteArray := prog_10_method_8_code
def y_M_isElement : MethodName := ⟨"GlobProfileModel", "isElement", "(I)Z"⟩
abbrev b_M_charAt : ByteArray := prog_10_method_9_code
def y_M_charAt : MethodName := ⟨"GlobProfileModel", "charAt", "([IIII)I"⟩
abbrev b_M_readClass : ByteArray := prog_10_method_10_code
def y_M_readClass : MethodName := ⟨"GlobProfileModel", "readClass", "([IIII)I"⟩
abbrev b_M_readPiece : ByteArray := prog_10_method_11_code
def y_M_readPiece : MethodName := ⟨"GlobProfileModel", "readPiece", "([IIII)I"⟩
abbrev b_M_read : ByteArray := prog_10_method_12_code
def y_M_read : MethodName := ⟨"GlobProfileModel", "read", "([III)I"⟩
abbrev b_M_mark : ByteArray := prog_10_method_14_code
def y_M_mark : MethodName := ⟨"GlobProfileModel", "mark", "(II)I"⟩
abbrev b_M_spread : ByteArray := prog_10_method_13_code
def y_M_spread : MethodName := ⟨"GlobProfileModel", "spread", "(I)V"⟩
abbrev b_M_marked : ByteArray := prog_10_method_15_code
def y_M_marked : MethodName := ⟨"GlobProfileModel", "marked", "()J"⟩
abbrev b_M_lay : ByteArray := prog_10_method_16_code
def y_M_lay : MethodName := ⟨"GlobProfileModel", "lay", "(I)V"⟩
abbrev b_M_allPieces : ByteArray := prog_10_method_17_code
def y_M_allPieces : MethodName := ⟨"GlobProfileModel", "allPieces", "()I"⟩
abbrev b_M_rule : ByteArray := prog_10_method_18_code
def y_M_rule : MethodName := ⟨"GlobProfileModel", "rule", "(ZI)I"⟩
abbrev b_M_drop : ByteArray := prog_10_method_19_code
def y_M_drop : MethodName := ⟨"GlobProfileModel", "drop", "(I)Z"⟩
abbrev b_M_rules : ByteArray := prog_10_method_20_code
def y_M_rules : MethodName := ⟨"GlobProfileModel", "rules", "()I"⟩
abbrev b_M_pieces : ByteArray := prog_10_method_21_code
def y_M_pieces : MethodName := ⟨"GlobProfileModel", "pieces", "(I)I"⟩
abbrev b_M_classify : ByteArray := prog_10_method_22_code
def y_M_classify : MethodName := ⟨"GlobProfileModel", "classify", "()V"⟩
abbrev b_M_permits : ByteArray := prog_10_method_23_code
def y_M_permits : MethodName := ⟨"GlobProfileModel", "permits", "(I)I"⟩
abbrev b_M_led : ByteArray := prog_10_method_24_code
def y_M_led : MethodName := ⟨"GlobProfileModel", "led", "(II)J"⟩
abbrev b_M_numbered : ByteArray := prog_10_method_25_code
def y_M_numbered : MethodName := ⟨"GlobProfileModel", "numbered", "(J)I"⟩
abbrev b_M_findSets : ByteArray := prog_10_method_26_code
def y_M_findSets : MethodName := ⟨"GlobProfileModel", "findSets", "(I)Z"⟩
abbrev b_M_isAlike : ByteArray := prog_10_method_27_code
def y_M_isAlike : MethodName := ⟨"GlobProfileModel", "isAlike", "(II)Z"⟩
abbrev b_M_findKinds : ByteArray := prog_10_method_28_code
def y_M_findKinds : MethodName := ⟨"GlobProfileModel", "findKinds", "()V"⟩
abbrev b_M_number : ByteArray := prog_10_method_29_code
def y_M_number : MethodName := ⟨"GlobProfileModel", "number", "()V"⟩
abbrev b_M_compile : ByteArray := prog_10_method_30_code
def y_M_compile : MethodName := ⟨"GlobProfileModel", "compile", "(I)I"⟩
abbrev b_M_lead : ByteArray := prog_10_method_31_code
def y_M_lead : MethodName := ⟨"GlobProfileModel", "lead", "(II)I"⟩
abbrev b_M_sets : ByteArray := prog_10_method_32_code
def y_M_sets : MethodName := ⟨"GlobProfileModel", "sets", "()I"⟩
abbrev b_M_states : ByteArray := prog_10_method_33_code
def y_M_states : MethodName := ⟨"GlobProfileModel", "states", "()I"⟩
abbrev b_M_next : ByteArray := prog_10_method_34_code
def y_M_next : MethodName := ⟨"GlobProfileModel", "next", "(II)I"⟩
abbrev b_M_gives : ByteArray := prog_10_method_35_code
def y_M_gives : MethodName := ⟨"GlobProfileModel", "gives", "(I)I"⟩
abbrev b_M_match : ByteArray := prog_10_method_36_code
def y_M_match : MethodName := ⟨"GlobProfileModel", "match", "()I"⟩
abbrev b_M_walk : ByteArray := prog_10_method_37_code
def y_M_walk : MethodName := ⟨"GlobProfileModel", "walk", "(I)I"⟩
abbrev b_M_restart : ByteArray := prog_10_method_38_code
def y_M_restart : MethodName := ⟨"GlobProfileModel", "restart", "()Z"⟩
abbrev b_M_place : ByteArray := prog_10_method_39_code
def y_M_place : MethodName := ⟨"GlobProfileModel", "place", "()I"⟩
abbrev b_M_way : ByteArray := prog_10_method_40_code
def y_M_way : MethodName := ⟨"GlobProfileModel", "way", "(I)I"⟩
abbrev b_Arrays_fillI : ByteArray := prog_12_method_103_code
def y_Arrays_fillI : MethodName := ⟨"java/util/Arrays", "fill", "([II)V"⟩
abbrev b_Arrays_fillJ : ByteArray := prog_12_method_101_code
def y_Arrays_fillJ : MethodName := ⟨"java/util/Arrays", "fill", "([JJ)V"⟩
abbrev b_Typed_byteOf : ByteArray := prog_7_method_5_code
def y_Typed_byteOf : MethodName := ⟨"GlobProfile$Typed", "byteOf", "(II)I"⟩
abbrev b_Typed_append : ByteArray := prog_7_method_2_code
def y_Typed_append : MethodName := ⟨"GlobProfile$Typed", "append", "(II)Z"⟩
abbrev b_Typed_characterAt : ByteArray := prog_7_method_3_code
def y_Typed_characterAt : MethodName := ⟨"GlobProfile$Typed", "characterAt", "(I)C"⟩
abbrev b_Typed_clear : ByteArray := prog_7_method_4_code
def y_Typed_clear : MethodName := ⟨"GlobProfile$Typed", "clear", "()V"⟩
abbrev b_G_symbolOf : ByteArray := prog_1_method_20_code
def y_G_symbolOf : MethodName := ⟨"GlobProfile", "symbolOf", "(I)I"⟩
abbrev b_Glob_clear : ByteArray := prog_2_method_2_code
def y_Glob_clear : MethodName := ⟨"GlobProfile$Glob", "clear", "()V"⟩
abbrev b_Glob_addPiece : ByteArray := prog_2_method_4_code
def y_Glob_addPiece : MethodName := ⟨"GlobProfile$Glob", "addPiece", "(Z)V"⟩
abbrev b_Glob_setReads : ByteArray := prog_2_method_5_code
def y_Glob_setReads : MethodName := ⟨"GlobProfile$Glob", "setReads", "(IIZ)V"⟩
abbrev b_Glob_isInChoice : ByteArray := prog_2_method_6_code
def y_Glob_isInChoice : MethodName := ⟨"GlobProfile$Glob", "isInChoice", "()Z"⟩
abbrev b_Glob_beginChoice : ByteArray := prog_2_method_7_code
def y_Glob_beginChoice : MethodName := ⟨"GlobProfile$Glob", "beginChoice", "()Z"⟩
abbrev b_Glob_beginRow : ByteArray := prog_2_method_8_code
def y_Glob_beginRow : MethodName := ⟨"GlobProfile$Glob", "beginRow", "()Z"⟩
abbrev b_Glob_endChoice : ByteArray := prog_2_method_9_code
def y_Glob_endChoice : MethodName := ⟨"GlobProfile$Glob", "endChoice", "()Z"⟩
abbrev b_Glob_copy : ByteArray := prog_2_method_3_code
def y_Glob_copy : MethodName := ⟨"GlobProfile$Glob", "copy", "(LGlobProfile$Glob;)V"⟩
abbrev b_Rule_fill : ByteArray := prog_4_method_2_code
def y_Rule_fill : MethodName := ⟨"GlobProfile$Rule", "fill", "(LGlobProfile$Glob;ZI)V"⟩
abbrev b_Reader_isElement : ByteArray := prog_3_method_9_code
def y_Reader_isElement : MethodName := ⟨"GlobProfile$GlobReader", "isElement", "(C)Z"⟩
abbrev b_Reader_pass : ByteArray := prog_3_method_4_code
def y_Reader_pass : MethodName := ⟨"GlobProfile$GlobReader", "pass", "(Z)V"⟩
abbrev b_Reader_setReads : ByteArray := prog_3_method_12_code
def y_Reader_setReads : MethodName := ⟨"GlobProfile$GlobReader", "setReads", "(CCZ)V"⟩
abbrev b_Reader_setReadsAll : ByteArray := prog_3_method_11_code
def y_Reader_setReadsAll : MethodName := ⟨"GlobProfile$GlobReader", "setReadsAll", "()V"⟩
abbrev b_Reader_addAnyButSlash : ByteArray := prog_3_method_10_code
def y_Reader_addAnyButSlash : MethodName := ⟨"GlobProfile$GlobReader", "addAnyButSlash", "(Z)V"⟩
abbrev b_Reader_readByte : ByteArray := prog_3_method_5_code
def y_Reader_readByte : MethodName := ⟨"GlobProfile$GlobReader", "readByte", "()V"⟩
abbrev b_Reader_readStars : ByteArray := prog_3_method_6_code
def y_Reader_readStars : MethodName := ⟨"GlobProfile$GlobReader", "readStars", "()V"⟩
abbrev b_Reader_readElement : ByteArray := prog_3_method_8_code
def y_Reader_readElement : MethodName := ⟨"GlobProfile$GlobReader", "readElement", "(Z)V"⟩
abbrev b_Reader_readBrackets : ByteArray := prog_3_method_7_code
def y_Reader_readBrackets : MethodName := ⟨"GlobProfile$GlobReader", "readBrackets", "()V"⟩
abbrev b_Reader_readPart : ByteArray := prog_3_method_3_code
def y_Reader_readPart : MethodName := ⟨"GlobProfile$GlobReader", "readPart", "()V"⟩
abbrev b_Reader_read : ByteArray := prog_3_method_2_code
def y_Reader_read : MethodName := ⟨"GlobProfile$GlobReader", "read", "()I"⟩
abbrev b_Union_clear : ByteArray := prog_8_method_2_code
def y_Union_clear : MethodName := ⟨"GlobProfile$Union", "clear", "()V"⟩
abbrev b_Union_moved : ByteArray := prog_8_method_4_code
def y_Union_moved : MethodName := ⟨"GlobProfile$Union", "moved", "(J)J"⟩
abbrev b_Union_add : ByteArray := prog_8_method_3_code
def y_Union_add : MethodName := ⟨"GlobProfile$Union", "add", "(LGlobProfile$Rule;)V"⟩
abbrev b_Union_columnFor : ByteArray := prog_8_method_6_code
def y_Union_columnFor : MethodName := ⟨"GlobProfile$Union", "columnFor", "(J)I"⟩
abbrev b_Union_groupSymbols : ByteArray := prog_8_method_5_code
def y_Union_groupSymbols : MethodName := ⟨"GlobProfile$Union", "groupSymbols", "()V"⟩
abbrev b_Union_columnOfByte : ByteArray := prog_8_method_7_code
def y_Union_columnOfByte : MethodName := ⟨"GlobProfile$Union", "columnOfByte", "(I)I"⟩
abbrev b_Union_behindAll : ByteArray := prog_8_method_8_code
def y_Union_behindAll : MethodName := ⟨"GlobProfile$Union", "behindAll", "(J)J"⟩
abbrev b_Union_readersOfColumn : ByteArray := prog_8_method_9_code
def y_Union_readersOfColumn : MethodName := ⟨"GlobProfile$Union", "readersOfColumn", "(I)J"⟩
abbrev b_Union_permissionsOf : ByteArray := prog_8_method_10_code
def y_Union_permissionsOf : MethodName := ⟨"GlobProfile$Union", "permissionsOf", "(J)I"⟩
abbrev b_Graph_add : ByteArray := prog_5_method_5_code
def y_Graph_add : MethodName := ⟨"GlobProfile$SetGraph", "add", "(JII)I"⟩
abbrev b_Graph_numberOf : ByteArray := prog_5_method_4_code
def y_Graph_numberOf : MethodName := ⟨"GlobProfile$SetGraph", "numberOf", "(JI)I"⟩
abbrev b_Graph_exploreFrom : ByteArray := prog_5_method_3_code
def y_Graph_exploreFrom : MethodName := ⟨"GlobProfile$SetGraph", "exploreFrom", "(II)Z"⟩
abbrev b_Graph_explore : ByteArray := prog_5_method_2_code
def y_Graph_explore : MethodName := ⟨"GlobProfile$SetGraph", "explore", "(I)Z"⟩
abbrev b_Graph_lead : ByteArray := prog_5_method_6_code
def y_Graph_lead : MethodName := ⟨"GlobProfile$SetGraph", "lead", "(II)I"⟩
abbrev b_Graph_permissionsOf : ByteArray := prog_5_method_7_code
def y_Graph_permissionsOf : MethodName := ⟨"GlobProfile$SetGraph", "permissionsOf", "(I)I"⟩
abbrev b_Table_isMade : ByteArray := prog_6_method_2_code
def y_Table_isMade : MethodName := ⟨"GlobProfile$Table", "isMade", "()Z"⟩
abbrev b_Table_clear : ByteArray := prog_6_method_3_code
def y_Table_clear : MethodName := ⟨"GlobProfile$Table", "clear", "()V"⟩
abbrev b_Table_setCount : ByteArray := prog_6_method_4_code
def y_Table_setCount : MethodName := ⟨"GlobProfile$Table", "setCount", "()I"⟩
abbrev b_Table_kindOfSet : ByteArray := prog_6_method_9_code
def y_Table_kindOfSet : MethodName := ⟨"GlobProfile$Table", "kindOfSet", "(I)I"⟩
abbrev b_Table_areOfOneKind : ByteArray := prog_6_method_8_code
def y_Table_areOfOneKind : MethodName := ⟨"GlobProfile$Table", "areOfOneKind", "(II)Z"⟩
abbrev b_Table_partByPermissions : ByteArray := prog_6_method_6_code
def y_Table_partByPermissions : MethodName := ⟨"GlobProfile$Table", "partByPermissions", "()V"⟩
abbrev b_Table_partByLeads : ByteArray := prog_6_method_7_code
def y_Table_partByLeads : MethodName := ⟨"GlobProfile$Table", "partByLeads", "()Z"⟩
abbrev b_Table_giveNumber : ByteArray := prog_6_method_11_code
def y_Table_giveNumber : MethodName := ⟨"GlobProfile$Table", "giveNumber", "(I)V"⟩
abbrev b_Table_numberStates : ByteArray := prog_6_method_10_code
def y_Table_numberStates : MethodName := ⟨"GlobProfile$Table", "numberStates", "()V"⟩
abbrev b_Table_make : ByteArray := prog_6_method_5_code
def y_Table_make : MethodName := ⟨"GlobProfile$Table", "make", "(I)Z"⟩
abbrev b_Table_step : ByteArray := prog_6_method_12_code
def y_Table_step : MethodName := ⟨"GlobProfile$Table", "step", "(II)I"⟩
abbrev b_Table_permissionsAt : ByteArray := prog_6_method_13_code
def y_Table_permissionsAt : MethodName := ⟨"GlobProfile$Table", "permissionsAt", "(I)I"⟩
abbrev b_G_slotAt : ByteArray := prog_1_method_17_code
def y_G_slotAt : MethodName := ⟨"GlobProfile", "slotAt", "(I)LGlobProfile$Rule;"⟩
abbrev b_G_ruleAt : ByteArray := prog_1_method_18_code
def y_G_ruleAt : MethodName := ⟨"GlobProfile", "ruleAt", "(I)LGlobProfile$Rule;"⟩
abbrev b_G_pieces : ByteArray := prog_1_method_6_code
def y_G_pieces : MethodName := ⟨"GlobProfile", "pieces", "(I)I"⟩
abbrev b_G_pieceSum : ByteArray := prog_1_method_19_code
def y_G_pieceSum : MethodName := ⟨"GlobProfile", "pieceSum", "()I"⟩
abbrev b_G_drop : ByteArray := prog_1_method_4_code
def y_G_drop : MethodName := ⟨"GlobProfile", "drop", "(I)Z"⟩
abbrev b_G_rule : ByteArray := prog_1_method_3_code
def y_G_rule : MethodName := ⟨"GlobProfile", "rule", "(ZI)I"⟩
abbrev b_G_compile : ByteArray := prog_1_method_7_code
def y_G_compile : MethodName := ⟨"GlobProfile", "compile", "(I)I"⟩
abbrev b_G_type : ByteArray := prog_1_method_2_code
def y_G_type : MethodName := ⟨"GlobProfile", "type", "(II)Z"⟩
abbrev b_G_rules : ByteArray := prog_1_method_5_code
def y_G_rules : MethodName := ⟨"GlobProfile", "rules", "()I"⟩
abbrev b_G_sets : ByteArray := prog_1_method_8_code
def y_G_sets : MethodName := ⟨"GlobProfile", "sets", "()I"⟩
abbrev b_G_states : ByteArray := prog_1_method_9_code
def y_G_states : MethodName := ⟨"GlobProfile", "states", "()I"⟩
abbrev b_G_next : ByteArray := prog_1_method_10_code
def y_G_next : MethodName := ⟨"GlobProfile", "next", "(II)I"⟩
abbrev b_G_gives : ByteArray := prog_1_method_11_code
def y_G_gives : MethodName := ⟨"GlobProfile", "gives", "(I)I"⟩
abbrev b_G_match : ByteArray := prog_1_method_12_code
def y_G_match : MethodName := ⟨"GlobProfile", "match", "()I"⟩
abbrev b_G_walk : ByteArray := prog_1_method_13_code
def y_G_walk : MethodName := ⟨"GlobProfile", "walk", "(I)I"⟩
abbrev b_G_restart : ByteArray := prog_1_method_14_code
def y_G_restart : MethodName := ⟨"GlobProfile", "restart", "()Z"⟩
abbrev b_G_place : ByteArray := prog_1_method_15_code
def y_G_place : MethodName := ⟨"GlobProfile", "place", "()I"⟩
abbrev b_G_way : ByteArray := prog_1_method_16_code
def y_G_way : MethodName := ⟨"GlobProfile", "way", "(I)I"⟩
abbrev b_Typed_init : ByteArray := prog_7_method_1_code
def y_Typed_init : MethodName := ⟨"GlobProfile$Typed", "<init>", "()V"⟩
abbrev b_Glob_init : ByteArray := prog_2_method_1_code
def y_Glob_init : MethodName := ⟨"GlobProfile$Glob", "<init>", "()V"⟩
abbrev b_Reader_init : ByteArray := prog_3_method_1_code
def y_Reader_init : MethodName := ⟨"GlobProfile$GlobReader", "<init>", "(LGlobProfile$Typed;)V"⟩
abbrev b_Rule_init : ByteArray := prog_4_method_1_code
def y_Rule_init : MethodName := ⟨"GlobProfile$Rule", "<init>", "()V"⟩
abbrev b_Union_init : ByteArray := prog_8_method_1_code
def y_Union_init : MethodName := ⟨"GlobProfile$Union", "<init>", "()V"⟩
abbrev b_Graph_init : ByteArray := prog_5_method_1_code
def y_Graph_init : MethodName := ⟨"GlobProfile$SetGraph", "<init>", "(LGlobProfile$Union;)V"⟩
abbrev b_Table_init : ByteArray := prog_6_method_1_code
def y_Table_init : MethodName := ⟨"GlobProfile$Table", "<init>", "(LGlobProfile$Union;)V"⟩
abbrev b_M_init : ByteArray := prog_10_method_1_code
def y_M_init : MethodName := ⟨"GlobProfileModel", "<init>", "()V"⟩
abbrev b_G_init : ByteArray := prog_1_method_1_code
def y_G_init : MethodName := ⟨"GlobProfile", "<init>", "()V"⟩
theorem hin_Typed : ∀ w ∈ u_ws "GlobProfile$Typed" T_Typed 2, w ∈ TT := by
  intro w hw
  obtain ⟨k, hk, rfl⟩ := List.mem_map.mp hw
  have hk := List.mem_range.mp hk
  match k, hk with
  | 0, _ => exact in_T (in_1 (List.mem_of_getElem? (i := 30) rfl)) rfl
  | 1, _ => exact in_T (in_1 (List.mem_of_getElem? (i := 32) rfl)) rfl
  | k + 2, hk => exact absurd hk (by omega)
theorem hin_Reader : ∀ w ∈ u_ws "GlobProfile$GlobReader" T_Reader 4, w ∈ TT := by
  intro w hw
  obtain ⟨k, hk, rfl⟩ := List.mem_map.mp hw
  have hk := List.mem_range.mp hk
  match k, hk with
  | 0, _ => exact in_T (in_1 (List.mem_of_getElem? (i := 85) rfl)) rfl
  | 1, _ => exact in_T (in_1 (List.mem_of_getElem? (i := 87) rfl)) rfl
  | 2, _ => exact in_T (in_1 (List.mem_of_getElem? (i := 89) rfl)) rfl
  | 3, _ => exact in_T (in_1 (List.mem_of_getElem? (i := 91) rfl)) rfl
  | k + 4, hk => exact absurd hk (by omega)
theorem hin_Glob : ∀ w ∈ u_ws "GlobProfile$Glob" T_Glob 8, w ∈ TT := by
  intro w hw
  obtain ⟨k, hk, rfl⟩ := List.mem_map.mp hw
  have hk := List.mem_range.mp hk
  match k, hk with
  | 0, _ => exact in_T (in_1 (List.mem_of_getElem? (i := 61) rfl)) rfl
  | 1, _ => exact in_T (in_1 (List.mem_of_getElem? (i := 63) rfl)) rfl
  | 2, _ => exact in_T (in_1 (List.mem_of_getElem? (i := 65) rfl)) rfl
  | 3, _ => exact in_T (in_1 (List.mem_of_getElem? (i := 67) rfl)) rfl
  | 4, _ => exact in_T (in_1 (List.mem_of_getElem? (i := 69) rfl)) rfl
  | 5, _ => exact in_T (in_1 (List.mem_of_getElem? (i := 71) rfl)) rfl
  | 6, _ => exact in_T (in_1 (List.mem_of_getElem? (i := 73) rfl)) rfl
  | 7, _ => exact in_T (in_1 (List.mem_of_getElem? (i := 75) rfl)) rfl
  | k + 8, hk => exact absurd hk (by omega)
theorem hin_Rule : ∀ w ∈ u_ws "GlobProfile$Rule" T_Rule 3, w ∈ TT := by
  intro w hw
  obtain ⟨k, hk, rfl⟩ := List.mem_map.mp hw
  have hk := List.mem_range.mp hk
  match k, hk with
  | 0, _ => exact in_T (in_1 (List.mem_of_getElem? (i := 110) rfl)) rfl
  | 1, _ => exact in_T (in_1 (List.mem_of_getElem? (i := 112) rfl)) rfl
  | 2, _ => exact in_T (in_1 (List.mem_of_getElem? (i := 114) rfl)) rfl
  | k + 3, hk => exact absurd hk (by omega)
theorem hin_Union : ∀ w ∈ u_ws "GlobProfile$Union" T_Union 10, w ∈ TT := by
  intro w hw
  obtain ⟨k, hk, rfl⟩ := List.mem_map.mp hw
  have hk := List.mem_range.mp hk
  match k, hk with
  | 0, _ => exact in_T (in_1 (List.mem_of_getElem? (i := 135) rfl)) rfl
  | 1, _ => exact in_T (in_1 (List.mem_of_getElem? (i := 137) rfl)) rfl
  | 2, _ => exact in_T (in_1 (List.mem_of_getElem? (i := 139) rfl)) rfl
  | 3, _ => exact in_T (in_1 (List.mem_of_getElem? (i := 141) rfl)) rfl
  | 4, _ => exact in_T (in_1 (List.mem_of_getElem? (i := 143) rfl)) rfl
  | 5, _ => exact in_T (in_1 (List.mem_of_getElem? (i := 145) rfl)) rfl
  | 6, _ => exact in_T (in_1 (List.mem_of_getElem? (i := 147) rfl)) rfl
  | 7, _ => exact in_T (in_1 (List.mem_of_getElem? (i := 149) rfl)) rfl
  | 8, _ => exact in_T (in_1 (List.mem_of_getElem? (i := 151) rfl)) rfl
  | 9, _ => exact in_T (in_1 (List.mem_of_getElem? (i := 153) rfl)) rfl
  | k + 10, hk => exact absurd hk (by omega)
theorem hin_Graph : ∀ w ∈ u_ws "GlobProfile$SetGraph" T_Graph 5, w ∈ TT := by
  intro w hw
  obtain ⟨k, hk, rfl⟩ := List.mem_map.mp hw
  have hk := List.mem_range.mp hk
  match k, hk with
  | 0, _ => exact in_T (in_1 (List.mem_of_getElem? (i := 174) rfl)) rfl
  | 1, _ => exact in_T (in_1 (List.mem_of_getElem? (i := 176) rfl)) rfl
  | 2, _ => exact in_T (in_1 (List.mem_of_getElem? (i := 178) rfl)) rfl
  | 3, _ => exact in_T (in_1 (List.mem_of_getElem? (i := 180) rfl)) rfl
  | 4, _ => exact in_T (in_1 (List.mem_of_getElem? (i := 182) rfl)) rfl
  | k + 5, hk => exact absurd hk (by omega)
theorem hin_Table : ∀ w ∈ u_ws "GlobProfile$Table" T_Table 10, w ∈ TT := by
  intro w hw
  obtain ⟨k, hk, rfl⟩ := List.mem_map.mp hw
  have hk := List.mem_range.mp hk
  match k, hk with
  | 0, _ => exact in_T (in_1 (List.mem_of_getElem? (i := 196) rfl)) rfl
  | 1, _ => exact in_T (in_1 (List.mem_of_getElem? (i := 198) rfl)) rfl
  | 2, _ => exact in_T (in_1 (List.mem_of_getElem? (i := 200) rfl)) rfl
  | 3, _ => exact in_T (in_1 (List.mem_of_getElem? (i := 202) rfl)) rfl
  | 4, _ => exact in_T (in_1 (List.mem_of_getElem? (i := 204) rfl)) rfl
  | 5, _ => exact in_T (in_1 (List.mem_of_getElem? (i := 206) rfl)) rfl
  | 6, _ => exact in_T (in_1 (List.mem_of_getElem? (i := 208) rfl)) rfl
  | 7, _ => exact in_T (in_1 (List.mem_of_getElem? (i := 210) rfl)) rfl
  | 8, _ => exact in_T (in_1 (List.mem_of_getElem? (i := 212) rfl)) rfl
  | 9, _ => exact in_T (in_1 (List.mem_of_getElem? (i := 214) rfl)) rfl
  | k + 10, hk => exact absurd hk (by omega)
theorem hin_G : ∀ w ∈ u_ws "GlobProfile" T_G 7, w ∈ TT := by
  intro w hw
  obtain ⟨k, hk, rfl⟩ := List.mem_map.mp hw
  have hk := List.mem_range.mp hk
  match k, hk with
  | 0, _ => exact in_T (in_1 (List.mem_of_getElem? (i := 224) rfl)) rfl
  | 1, _ => exact in_T (in_1 (List.mem_of_getElem? (i := 226) rfl)) rfl
  | 2, _ => exact in_T (in_1 (List.mem_of_getElem? (i := 228) rfl)) rfl
  | 3, _ => exact in_T (in_1 (List.mem_of_getElem? (i := 230) rfl)) rfl
  | 4, _ => exact in_T (in_1 (List.mem_of_getElem? (i := 232) rfl)) rfl
  | 5, _ => exact in_T (in_1 (List.mem_of_getElem? (i := 234) rfl)) rfl
  | 6, _ => exact in_T (in_1 (List.mem_of_getElem? (i := 236) rfl)) rfl
  | k + 7, hk => exact absurd hk (by omega)
theorem hin_M : ∀ w ∈ u_ws "GlobProfileModel" T_M 36, w ∈ TT := by
  intro w hw
  obtain ⟨k, hk, rfl⟩ := List.mem_map.mp hw
  have hk := List.mem_range.mp hk
  match k, hk with
  | 0, _ => exact in_T (in_3 (List.mem_of_getElem? (i := 97) rfl)) rfl
  | 1, _ => exact in_T (in_3 (List.mem_of_getElem? (i := 99) rfl)) rfl
  | 2, _ => exact in_T (in_3 (List.mem_of_getElem? (i := 101) rfl)) rfl
  | 3, _ => exact in_T (in_3 (List.mem_of_getElem? (i := 103) rfl)) rfl
  | 4, _ => exact in_T (in_3 (List.mem_of_getElem? (i := 105) rfl)) rfl
  | 5, _ => exact in_T (in_3 (List.mem_of_getElem? (i := 107) rfl)) rfl
  | 6, _ => exact in_T (in_3 (List.mem_of_getElem? (i := 109) rfl)) rfl
  | 7, _ => exact in_T (in_3 (List.mem_of_getElem? (i := 111) rfl)) rfl
  | 8, _ => exact in_T (in_3 (List.mem_of_getElem? (i := 113) rfl)) rfl
  | 9, _ => exact in_T (in_3 (List.mem_of_getElem? (i := 115) rfl)) rfl
  | 10, _ => exact in_T (in_3 (List.mem_of_getElem? (i := 117) rfl)) rfl
  | 11, _ => exact in_T (in_3 (List.mem_of_getElem? (i := 119) rfl)) rfl
  | 12, _ => exact in_T (in_3 (List.mem_of_getElem? (i := 121) rfl)) rfl
  | 13, _ => exact in_T (in_3 (List.mem_of_getElem? (i := 123) rfl)) rfl
  | 14, _ => exact in_T (in_3 (List.mem_of_getElem? (i := 125) rfl)) rfl
  | 15, _ => exact in_T (in_3 (List.mem_of_getElem? (i := 127) rfl)) rfl
  | 16, _ => exact in_T (in_3 (List.mem_of_getElem? (i := 129) rfl)) rfl
  | 17, _ => exact in_T (in_3 (List.mem_of_getElem? (i := 131) rfl)) rfl
  | 18, _ => exact in_T (in_3 (List.mem_of_getElem? (i := 133) rfl)) rfl
  | 19, _ => exact in_T (in_3 (List.mem_of_getElem? (i := 135) rfl)) rfl
  | 20, _ => exact in_T (in_3 (List.mem_of_getElem? (i := 137) rfl)) rfl
  | 21, _ => exact in_T (in_3 (List.mem_of_getElem? (i := 139) rfl)) rfl
  | 22, _ => exact in_T (in_3 (List.mem_of_getElem? (i := 141) rfl)) rfl
  | 23, _ => exact in_T (in_3 (List.mem_of_getElem? (i := 143) rfl)) rfl
  | 24, _ => exact in_T (in_3 (List.mem_of_getElem? (i := 145) rfl)) rfl
  | 25, _ => exact in_T (in_3 (List.mem_of_getElem? (i := 147) rfl)) rfl
  | 26, _ => exact in_T (in_3 (List.mem_of_getElem? (i := 149) rfl)) rfl
  | 27, _ => exact in_T (in_3 (List.mem_of_getElem? (i := 151) rfl)) rfl
  | 28, _ => exact in_T (in_3 (List.mem_of_getElem? (i := 153) rfl)) rfl
  | 29, _ => exact in_T (in_3 (List.mem_of_getElem? (i := 155) rfl)) rfl
  | 30, _ => exact in_T (in_3 (List.mem_of_getElem? (i := 157) rfl)) rfl
  | 31, _ => exact in_T (in_3 (List.mem_of_getElem? (i := 159) rfl)) rfl
  | 32, _ => exact in_T (in_3 (List.mem_of_getElem? (i := 161) rfl)) rfl
  | 33, _ => exact in_T (in_3 (List.mem_of_getElem? (i := 163) rfl)) rfl
  | 34, _ => exact in_T (in_3 (List.mem_of_getElem? (i := 165) rfl)) rfl
  | 35, _ => exact in_T (in_3 (List.mem_of_getElem? (i := 167) rfl)) rfl
  | k + 36, hk => exact absurd hk (by omega)
