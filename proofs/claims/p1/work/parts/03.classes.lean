/-! The classes whose objects the worlds hold, their fields. Laid by mkbase.py. -/
def F_RW : u_T := fun k => match k with
  | 0 => ("ReplacementWriter", "encoding", "LReplacementWriter$Encoding;", true)
  | 1 => ("ReplacementWriter", "text", "LReplacementWriter$Row;", true)
  | 2 => ("ReplacementWriter", "held", "LReplacementWriter$Groups;", true)
  | 3 => ("ReplacementWriter", "output", "LReplacementWriter$Output;", true)
  | 4 => ("ReplacementWriter", "writing", "LReplacementWriter$Writing;", true)
  | 5 => ("ReplacementWriter", "lastCode", "I", false)
  | _ => ("ReplacementWriter", "lastOffset", "I", false)
def t_RW : Nat → FieldType := fun k => match k with
  | 0 => .object "ReplacementWriter$Encoding"
  | 1 => .object "ReplacementWriter$Row"
  | 2 => .object "ReplacementWriter$Groups"
  | 3 => .object "ReplacementWriter$Output"
  | 4 => .object "ReplacementWriter$Writing"
  | 5 => .int
  | _ => .int
theorem n_RW : ∀ a, a < 7 → ∀ b, b < 7 → a ≠ b → (F_RW a).2.1 ≠ (F_RW b).2.1 := by decide +kernel
theorem t_RW_ok : ∀ k, k < 7 → parseFieldDescriptor (F_RW k).2.2.1 = some (t_RW k) := by decide +kernel
theorem i_RW : ∀ w ∈ u_ws "ReplacementWriter" F_RW 7, w ∈ zw := List.forall_mem_cons.mpr ⟨zw_236, List.forall_mem_cons.mpr ⟨zw_238, List.forall_mem_cons.mpr ⟨zw_240, List.forall_mem_cons.mpr ⟨zw_242, List.forall_mem_cons.mpr ⟨zw_244, List.forall_mem_cons.mpr ⟨zw_246, List.forall_mem_cons.mpr ⟨zw_248, fun _ h => absurd h List.not_mem_nil⟩⟩⟩⟩⟩⟩⟩
def F_Row : u_T := fun k => match k with
  | 0 => ("ReplacementWriter$Row", "most", "I", true)
  | 1 => ("ReplacementWriter$Row", "bytes", "[B", false)
  | _ => ("ReplacementWriter$Row", "length", "I", false)
def t_Row : Nat → FieldType := fun k => match k with
  | 0 => .int
  | 1 => .array .byte
  | _ => .int
theorem n_Row : ∀ a, a < 3 → ∀ b, b < 3 → a ≠ b → (F_Row a).2.1 ≠ (F_Row b).2.1 := by decide +kernel
theorem t_Row_ok : ∀ k, k < 3 → parseFieldDescriptor (F_Row k).2.2.1 = some (t_Row k) := by decide +kernel
theorem i_Row : ∀ w ∈ u_ws "ReplacementWriter$Row" F_Row 3, w ∈ zw := List.forall_mem_cons.mpr ⟨zw_57, List.forall_mem_cons.mpr ⟨zw_59, List.forall_mem_cons.mpr ⟨zw_61, fun _ h => absurd h List.not_mem_nil⟩⟩⟩
def F_Encoding : u_T := fun k => match k with
  | _ => ("ReplacementWriter$Encoding", "utf", "Z", true)
def t_Encoding : Nat → FieldType := fun k => match k with
  | _ => .boolean
theorem n_Encoding : ∀ a, a < 1 → ∀ b, b < 1 → a ≠ b → (F_Encoding a).2.1 ≠ (F_Encoding b).2.1 := by decide +kernel
theorem t_Encoding_ok : ∀ k, k < 1 → parseFieldDescriptor (F_Encoding k).2.2.1 = some (t_Encoding k) := by decide +kernel
theorem i_Encoding : ∀ w ∈ u_ws "ReplacementWriter$Encoding" F_Encoding 1, w ∈ zw := List.forall_mem_cons.mpr ⟨zw_128, fun _ h => absurd h List.not_mem_nil⟩
def F_Cases : u_T := fun k => match k with
  | _ => ("ReplacementWriter$Cases", "pairsEnd", "I", true)
def t_Cases : Nat → FieldType := fun k => match k with
  | _ => .int
theorem n_Cases : ∀ a, a < 1 → ∀ b, b < 1 → a ≠ b → (F_Cases a).2.1 ≠ (F_Cases b).2.1 := by decide +kernel
theorem t_Cases_ok : ∀ k, k < 1 → parseFieldDescriptor (F_Cases k).2.2.1 = some (t_Cases k) := by decide +kernel
theorem i_Cases : ∀ w ∈ u_ws "ReplacementWriter$Cases" F_Cases 1, w ∈ zw := List.forall_mem_cons.mpr ⟨zw_142, fun _ h => absurd h List.not_mem_nil⟩
def F_Name : u_T := fun k => match k with
  | 0 => ("ReplacementWriter$Name", "letters", "[B", true)
  | _ => ("ReplacementWriter$Name", "group", "I", true)
def t_Name : Nat → FieldType := fun k => match k with
  | 0 => .array .byte
  | _ => .int
theorem n_Name : ∀ a, a < 2 → ∀ b, b < 2 → a ≠ b → (F_Name a).2.1 ≠ (F_Name b).2.1 := by decide +kernel
theorem t_Name_ok : ∀ k, k < 2 → parseFieldDescriptor (F_Name k).2.2.1 = some (t_Name k) := by decide +kernel
theorem i_Name : ∀ w ∈ u_ws "ReplacementWriter$Name" F_Name 2, w ∈ zw := List.forall_mem_cons.mpr ⟨zw_567, List.forall_mem_cons.mpr ⟨zw_569, fun _ h => absurd h List.not_mem_nil⟩⟩
def F_Groups : u_T := fun k => match k with
  | 0 => ("ReplacementWriter$Groups", "texts", "[LReplacementWriter$Row;", true)
  | 1 => ("ReplacementWriter$Groups", "isSet", "[Z", true)
  | 2 => ("ReplacementWriter$Groups", "names", "Ljava/util/ArrayList;", true)
  | 3 => ("ReplacementWriter$Groups", "markText", "LReplacementWriter$Row;", true)
  | 4 => ("ReplacementWriter$Groups", "greatest", "I", false)
  | _ => ("ReplacementWriter$Groups", "namesGiven", "I", false)
def t_Groups : Nat → FieldType := fun k => match k with
  | 0 => .array (.object "ReplacementWriter$Row")
  | 1 => .array .boolean
  | 2 => .object "java/util/ArrayList"
  | 3 => .object "ReplacementWriter$Row"
  | 4 => .int
  | _ => .int
theorem n_Groups : ∀ a, a < 6 → ∀ b, b < 6 → a ≠ b → (F_Groups a).2.1 ≠ (F_Groups b).2.1 := by decide +kernel
theorem t_Groups_ok : ∀ k, k < 6 → parseFieldDescriptor (F_Groups k).2.2.1 = some (t_Groups k) := by decide +kernel
theorem i_Groups : ∀ w ∈ u_ws "ReplacementWriter$Groups" F_Groups 6, w ∈ zw := List.forall_mem_cons.mpr ⟨zw_108, List.forall_mem_cons.mpr ⟨zw_110, List.forall_mem_cons.mpr ⟨zw_112, List.forall_mem_cons.mpr ⟨zw_114, List.forall_mem_cons.mpr ⟨zw_116, List.forall_mem_cons.mpr ⟨zw_118, fun _ h => absurd h List.not_mem_nil⟩⟩⟩⟩⟩⟩
def F_Output : u_T := fun k => match k with
  | 0 => ("ReplacementWriter$Output", "encoding", "LReplacementWriter$Encoding;", true)
  | 1 => ("ReplacementWriter$Output", "cases", "LReplacementWriter$Cases;", true)
  | 2 => ("ReplacementWriter$Output", "bytes", "LReplacementWriter$Row;", true)
  | 3 => ("ReplacementWriter$Output", "steadyTurn", "LReplacementWriter$Turn;", false)
  | 4 => ("ReplacementWriter$Output", "nextTurn", "LReplacementWriter$Turn;", false)
  | _ => ("ReplacementWriter$Output", "isFull", "Z", false)
def t_Output : Nat → FieldType := fun k => match k with
  | 0 => .object "ReplacementWriter$Encoding"
  | 1 => .object "ReplacementWriter$Cases"
  | 2 => .object "ReplacementWriter$Row"
  | 3 => .object "ReplacementWriter$Turn"
  | 4 => .object "ReplacementWriter$Turn"
  | _ => .boolean
theorem n_Output : ∀ a, a < 6 → ∀ b, b < 6 → a ≠ b → (F_Output a).2.1 ≠ (F_Output b).2.1 := by decide +kernel
theorem t_Output_ok : ∀ k, k < 6 → parseFieldDescriptor (F_Output k).2.2.1 = some (t_Output k) := by decide +kernel
theorem i_Output : ∀ w ∈ u_ws "ReplacementWriter$Output" F_Output 6, w ∈ zw := List.forall_mem_cons.mpr ⟨zw_160, List.forall_mem_cons.mpr ⟨zw_162, List.forall_mem_cons.mpr ⟨zw_164, List.forall_mem_cons.mpr ⟨zw_166, List.forall_mem_cons.mpr ⟨zw_168, List.forall_mem_cons.mpr ⟨zw_170, fun _ h => absurd h List.not_mem_nil⟩⟩⟩⟩⟩⟩
def F_Escape : u_T := fun k => match k with
  | 0 => ("ReplacementWriter$Escape", "text", "LReplacementWriter$Row;", true)
  | 1 => ("ReplacementWriter$Escape", "encoding", "LReplacementWriter$Encoding;", true)
  | 2 => ("ReplacementWriter$Escape", "character", "I", false)
  | _ => ("ReplacementWriter$Escape", "next", "I", false)
def t_Escape : Nat → FieldType := fun k => match k with
  | 0 => .object "ReplacementWriter$Row"
  | 1 => .object "ReplacementWriter$Encoding"
  | 2 => .int
  | _ => .int
theorem n_Escape : ∀ a, a < 4 → ∀ b, b < 4 → a ≠ b → (F_Escape a).2.1 ≠ (F_Escape b).2.1 := by decide +kernel
theorem t_Escape_ok : ∀ k, k < 4 → parseFieldDescriptor (F_Escape k).2.2.1 = some (t_Escape k) := by decide +kernel
theorem i_Escape : ∀ w ∈ u_ws "ReplacementWriter$Escape" F_Escape 4, w ∈ zw := List.forall_mem_cons.mpr ⟨zw_189, List.forall_mem_cons.mpr ⟨zw_191, List.forall_mem_cons.mpr ⟨zw_193, List.forall_mem_cons.mpr ⟨zw_195, fun _ h => absurd h List.not_mem_nil⟩⟩⟩⟩
def F_Writing : u_T := fun k => match k with
  | 0 => ("ReplacementWriter$Writing", "text", "LReplacementWriter$Row;", true)
  | 1 => ("ReplacementWriter$Writing", "held", "LReplacementWriter$Groups;", true)
  | 2 => ("ReplacementWriter$Writing", "output", "LReplacementWriter$Output;", true)
  | 3 => ("ReplacementWriter$Writing", "encoding", "LReplacementWriter$Encoding;", true)
  | 4 => ("ReplacementWriter$Writing", "escape", "LReplacementWriter$Escape;", true)
  | 5 => ("ReplacementWriter$Writing", "rich", "Z", false)
  | 6 => ("ReplacementWriter$Writing", "unsetIsEmpty", "Z", false)
  | 7 => ("ReplacementWriter$Writing", "unknownIsUnset", "Z", false)
  | 8 => ("ReplacementWriter$Writing", "code", "I", false)
  | _ => ("ReplacementWriter$Writing", "offset", "I", false)
def t_Writing : Nat → FieldType := fun k => match k with
  | 0 => .object "ReplacementWriter$Row"
  | 1 => .object "ReplacementWriter$Groups"
  | 2 => .object "ReplacementWriter$Output"
  | 3 => .object "ReplacementWriter$Encoding"
  | 4 => .object "ReplacementWriter$Escape"
  | 5 => .boolean
  | 6 => .boolean
  | 7 => .boolean
  | 8 => .int
  | _ => .int
theorem n_Writing : ∀ a, a < 10 → ∀ b, b < 10 → a ≠ b → (F_Writing a).2.1 ≠ (F_Writing b).2.1 := by decide +kernel
theorem t_Writing_ok : ∀ k, k < 10 → parseFieldDescriptor (F_Writing k).2.2.1 = some (t_Writing k) := by decide +kernel
theorem i_Writing : ∀ w ∈ u_ws "ReplacementWriter$Writing" F_Writing 10, w ∈ zw := List.forall_mem_cons.mpr ⟨zw_208, List.forall_mem_cons.mpr ⟨zw_210, List.forall_mem_cons.mpr ⟨zw_212, List.forall_mem_cons.mpr ⟨zw_214, List.forall_mem_cons.mpr ⟨zw_216, List.forall_mem_cons.mpr ⟨zw_218, List.forall_mem_cons.mpr ⟨zw_220, List.forall_mem_cons.mpr ⟨zw_222, List.forall_mem_cons.mpr ⟨zw_224, List.forall_mem_cons.mpr ⟨zw_226, fun _ h => absurd h List.not_mem_nil⟩⟩⟩⟩⟩⟩⟩⟩⟩⟩
def F_ArrayList : u_T := fun k => match k with
  | 0 => ("java/util/ArrayList", "elementData", "[Ljava/lang/Object;", false)
  | 1 => ("java/util/ArrayList", "size", "I", false)
  | _ => ("java/util/AbstractList", "modCount", "I", false)
def t_ArrayList : Nat → FieldType := fun k => match k with
  | 0 => .array (.object "java/lang/Object")
  | 1 => .int
  | _ => .int
theorem n_ArrayList : ∀ a, a < 3 → ∀ b, b < 3 → a ≠ b → (F_ArrayList a).2.1 ≠ (F_ArrayList b).2.1 := by decide +kernel
theorem t_ArrayList_ok : ∀ k, k < 3 → parseFieldDescriptor (F_ArrayList k).2.2.1 = some (t_ArrayList k) := by decide +kernel
theorem i_ArrayList : ∀ w ∈ u_ws "java/util/ArrayList" F_ArrayList 3, w ∈ zw := List.forall_mem_cons.mpr ⟨zw_92, List.forall_mem_cons.mpr ⟨zw_94, List.forall_mem_cons.mpr ⟨zw_96, fun _ h => absurd h List.not_mem_nil⟩⟩⟩
def F_Mod : u_T := fun k => match k with
  | 0 => ("ReplacementWriterModel", "table", "LReplacementWriterModel$Table;", true)
  | 1 => ("ReplacementWriterModel", "template", "LReplacementWriterModel$Template;", true)
  | 2 => ("ReplacementWriterModel", "holder", "LReplacementWriterModel$Holder;", true)
  | 3 => ("ReplacementWriterModel", "text", "[B", true)
  | 4 => ("ReplacementWriterModel", "size", "I", false)
  | 5 => ("ReplacementWriterModel", "thrown", "I", false)
  | 6 => ("ReplacementWriterModel", "code", "I", false)
  | 7 => ("ReplacementWriterModel", "result", "Z", false)
  | 8 => ("ReplacementWriterModel", "ch", "[I", true)
  | 9 => ("ReplacementWriterModel", "place", "[I", true)
  | 10 => ("ReplacementWriterModel", "n", "I", false)
  | _ => ("ReplacementWriterModel", "badAt", "I", false)
def t_Mod : Nat → FieldType := fun k => match k with
  | 0 => .object "ReplacementWriterModel$Table"
  | 1 => .object "ReplacementWriterModel$Template"
  | 2 => .object "ReplacementWriterModel$Holder"
  | 3 => .array .byte
  | 4 => .int
  | 5 => .int
  | 6 => .int
  | 7 => .boolean
  | 8 => .array .int
  | 9 => .array .int
  | 10 => .int
  | _ => .int
theorem n_Mod : ∀ a, a < 12 → ∀ b, b < 12 → a ≠ b → (F_Mod a).2.1 ≠ (F_Mod b).2.1 := by decide +kernel
theorem t_Mod_ok : ∀ k, k < 12 → parseFieldDescriptor (F_Mod k).2.2.1 = some (t_Mod k) := by decide +kernel
theorem i_Mod : ∀ w ∈ u_ws "ReplacementWriterModel" F_Mod 12, w ∈ zw := List.forall_mem_cons.mpr ⟨zw_1019, List.forall_mem_cons.mpr ⟨zw_1021, List.forall_mem_cons.mpr ⟨zw_1023, List.forall_mem_cons.mpr ⟨zw_1025, List.forall_mem_cons.mpr ⟨zw_1027, List.forall_mem_cons.mpr ⟨zw_1029, List.forall_mem_cons.mpr ⟨zw_1031, List.forall_mem_cons.mpr ⟨zw_1033, List.forall_mem_cons.mpr ⟨zw_1035, List.forall_mem_cons.mpr ⟨zw_1037, List.forall_mem_cons.mpr ⟨zw_1039, List.forall_mem_cons.mpr ⟨zw_1041, fun _ h => absurd h List.not_mem_nil⟩⟩⟩⟩⟩⟩⟩⟩⟩⟩⟩⟩
def F_Table : u_T := fun k => match k with
  | 0 => ("ReplacementWriterModel$Table", "kind", "[B", true)
  | 1 => ("ReplacementWriterModel$Table", "utf", "Z", false)
  | 2 => ("ReplacementWriterModel$Table", "ucp", "Z", false)
  | 3 => ("ReplacementWriterModel$Table", "last", "I", false)
  | 4 => ("ReplacementWriterModel$Table", "mate", "[I", true)
  | _ => ("ReplacementWriterModel$Table", "mates", "I", false)
def t_Table : Nat → FieldType := fun k => match k with
  | 0 => .array .byte
  | 1 => .boolean
  | 2 => .boolean
  | 3 => .int
  | 4 => .array .int
  | _ => .int
theorem n_Table : ∀ a, a < 6 → ∀ b, b < 6 → a ≠ b → (F_Table a).2.1 ≠ (F_Table b).2.1 := by decide +kernel
theorem t_Table_ok : ∀ k, k < 6 → parseFieldDescriptor (F_Table k).2.2.1 = some (t_Table k) := by decide +kernel
theorem i_Table : ∀ w ∈ u_ws "ReplacementWriterModel$Table" F_Table 6, w ∈ zw := List.forall_mem_cons.mpr ⟨zw_904, List.forall_mem_cons.mpr ⟨zw_906, List.forall_mem_cons.mpr ⟨zw_908, List.forall_mem_cons.mpr ⟨zw_910, List.forall_mem_cons.mpr ⟨zw_912, List.forall_mem_cons.mpr ⟨zw_914, fun _ h => absurd h List.not_mem_nil⟩⟩⟩⟩⟩⟩
def F_Template : u_T := fun k => match k with
  | 0 => ("ReplacementWriterModel$Template", "table", "LReplacementWriterModel$Table;", true)
  | 1 => ("ReplacementWriterModel$Template", "source", "LReplacementWriterModel$Source;", false)
  | 2 => ("ReplacementWriterModel$Template", "rich", "Z", false)
  | 3 => ("ReplacementWriterModel$Template", "empty", "Z", false)
  | 4 => ("ReplacementWriterModel$Template", "unknown", "Z", false)
  | 5 => ("ReplacementWriterModel$Template", "t", "[I", false)
  | 6 => ("ReplacementWriterModel$Template", "n", "I", false)
  | 7 => ("ReplacementWriterModel$Template", "out", "[B", false)
  | 8 => ("ReplacementWriterModel$Template", "size", "I", false)
  | 9 => ("ReplacementWriterModel$Template", "mode", "I", false)
  | 10 => ("ReplacementWriterModel$Template", "once", "I", false)
  | 11 => ("ReplacementWriterModel$Template", "faultAt", "I", false)
  | _ => ("ReplacementWriterModel$Template", "i", "I", false)
def t_Template : Nat → FieldType := fun k => match k with
  | 0 => .object "ReplacementWriterModel$Table"
  | 1 => .object "ReplacementWriterModel$Source"
  | 2 => .boolean
  | 3 => .boolean
  | 4 => .boolean
  | 5 => .array .int
  | 6 => .int
  | 7 => .array .byte
  | 8 => .int
  | 9 => .int
  | 10 => .int
  | 11 => .int
  | _ => .int
theorem n_Template : ∀ a, a < 13 → ∀ b, b < 13 → a ≠ b → (F_Template a).2.1 ≠ (F_Template b).2.1 := by decide +kernel
theorem t_Template_ok : ∀ k, k < 13 → parseFieldDescriptor (F_Template k).2.2.1 = some (t_Template k) := by decide +kernel
theorem i_Template : ∀ w ∈ u_ws "ReplacementWriterModel$Template" F_Template 13, w ∈ zw := List.forall_mem_cons.mpr ⟨zw_942, List.forall_mem_cons.mpr ⟨zw_944, List.forall_mem_cons.mpr ⟨zw_946, List.forall_mem_cons.mpr ⟨zw_948, List.forall_mem_cons.mpr ⟨zw_950, List.forall_mem_cons.mpr ⟨zw_952, List.forall_mem_cons.mpr ⟨zw_954, List.forall_mem_cons.mpr ⟨zw_956, List.forall_mem_cons.mpr ⟨zw_958, List.forall_mem_cons.mpr ⟨zw_960, List.forall_mem_cons.mpr ⟨zw_962, List.forall_mem_cons.mpr ⟨zw_964, List.forall_mem_cons.mpr ⟨zw_966, fun _ h => absurd h List.not_mem_nil⟩⟩⟩⟩⟩⟩⟩⟩⟩⟩⟩⟩⟩
def F_Holder : u_T := fun k => match k with
  | 0 => ("ReplacementWriterModel$Holder", "groups", "I", false)
  | 1 => ("ReplacementWriterModel$Holder", "held", "[[I", true)
  | 2 => ("ReplacementWriterModel$Holder", "names", "Ljava/util/ArrayList;", true)
  | 3 => ("ReplacementWriterModel$Holder", "numbers", "Ljava/util/ArrayList;", true)
  | _ => ("ReplacementWriterModel$Holder", "mark", "[I", false)
def t_Holder : Nat → FieldType := fun k => match k with
  | 0 => .int
  | 1 => .array (.array .int)
  | 2 => .object "java/util/ArrayList"
  | 3 => .object "java/util/ArrayList"
  | _ => .array .int
theorem n_Holder : ∀ a, a < 5 → ∀ b, b < 5 → a ≠ b → (F_Holder a).2.1 ≠ (F_Holder b).2.1 := by decide +kernel
theorem t_Holder_ok : ∀ k, k < 5 → parseFieldDescriptor (F_Holder k).2.2.1 = some (t_Holder k) := by decide +kernel
theorem i_Holder : ∀ w ∈ u_ws "ReplacementWriterModel$Holder" F_Holder 5, w ∈ zw := List.forall_mem_cons.mpr ⟨zw_989, List.forall_mem_cons.mpr ⟨zw_991, List.forall_mem_cons.mpr ⟨zw_993, List.forall_mem_cons.mpr ⟨zw_995, List.forall_mem_cons.mpr ⟨zw_997, fun _ h => absurd h List.not_mem_nil⟩⟩⟩⟩⟩
abbrev zcl : List vw_C := [("ReplacementWriter", F_RW, 7), ("ReplacementWriter$Row", F_Row, 3), ("ReplacementWriter$Encoding", F_Encoding, 1), ("ReplacementWriter$Cases", F_Cases, 1), ("ReplacementWriter$Name", F_Name, 2), ("ReplacementWriter$Groups", F_Groups, 6), ("ReplacementWriter$Output", F_Output, 6), ("ReplacementWriter$Escape", F_Escape, 4), ("ReplacementWriter$Writing", F_Writing, 10), ("java/util/ArrayList", F_ArrayList, 3), ("ReplacementWriterModel", F_Mod, 12), ("ReplacementWriterModel$Table", F_Table, 6), ("ReplacementWriterModel$Template", F_Template, 13), ("ReplacementWriterModel$Holder", F_Holder, 5)]
