/-! names, fields, words -/
def R_Bs : String := "RecordNode$Bytes"
def T_Bs : u_T := fun k => match k with
  | 0 => ("RecordNode$Bytes", "values", "[I", true)
  | _ => ("RecordNode$Bytes", "count", "I", false)
def ty_Bs : Nat → FieldType := fun k => match k with
  | 0 => .array .int
  | _ => .int
theorem nm_Bs : ∀ a, a < 2 → ∀ b, b < 2 → a ≠ b → (T_Bs a).2.1 ≠ (T_Bs b).2.1 := by decide +kernel
theorem tyok_Bs : ∀ k, k < 2 → parseFieldDescriptor (T_Bs k).2.2.1 = some (ty_Bs k) := by decide +kernel
def R_Cs : String := "RecordNode$Contexts"
def T_Cs : u_T := fun k => match k with
  | 0 => ("RecordNode$Contexts", "ids", "[I", true)
  | 1 => ("RecordNode$Contexts", "services", "[I", true)
  | 2 => ("RecordNode$Contexts", "results", "[I", true)
  | _ => ("RecordNode$Contexts", "count", "I", false)
def ty_Cs : Nat → FieldType := fun k => match k with
  | 0 => .array .int
  | 1 => .array .int
  | 2 => .array .int
  | _ => .int
theorem nm_Cs : ∀ a, a < 4 → ∀ b, b < 4 → a ≠ b → (T_Cs a).2.1 ≠ (T_Cs b).2.1 := by decide +kernel
theorem tyok_Cs : ∀ k, k < 4 → parseFieldDescriptor (T_Cs k).2.2.1 = some (ty_Cs k) := by decide +kernel
def R_Mr : String := "RecordNode$Matcher"
def T_Mr : u_T := fun k => match k with
  | _ => ("RecordNode$Matcher", "reach", "[Z", true)
def ty_Mr : Nat → FieldType := fun k => match k with
  | _ => .array .boolean
theorem nm_Mr : ∀ a, a < 1 → ∀ b, b < 1 → a ≠ b → (T_Mr a).2.1 ≠ (T_Mr b).2.1 := by decide +kernel
theorem tyok_Mr : ∀ k, k < 1 → parseFieldDescriptor (T_Mr k).2.2.1 = some (ty_Mr k) := by decide +kernel
def R_Mg : String := "RecordNode$Message"
def T_Mg : u_T := fun k => match k with
  | 0 => ("RecordNode$Message", "stage", "I", false)
  | 1 => ("RecordNode$Message", "context", "I", false)
  | 2 => ("RecordNode$Message", "kind", "I", false)
  | 3 => ("RecordNode$Message", "number", "I", false)
  | _ => ("RecordNode$Message", "hasSet", "Z", false)
def ty_Mg : Nat → FieldType := fun k => match k with
  | 0 => .int
  | 1 => .int
  | 2 => .int
  | 3 => .int
  | _ => .boolean
theorem nm_Mg : ∀ a, a < 5 → ∀ b, b < 5 → a ≠ b → (T_Mg a).2.1 ≠ (T_Mg b).2.1 := by decide +kernel
theorem tyok_Mg : ∀ k, k < 5 → parseFieldDescriptor (T_Mg k).2.2.1 = some (ty_Mg k) := by decide +kernel
def R_Ou : String := "RecordNode$Output"
def T_Ou : u_T := fun k => match k with
  | 0 => ("RecordNode$Output", "values", "[I", true)
  | 1 => ("RecordNode$Output", "first", "I", false)
  | _ => ("RecordNode$Output", "count", "I", false)
def ty_Ou : Nat → FieldType := fun k => match k with
  | 0 => .array .int
  | 1 => .int
  | _ => .int
theorem nm_Ou : ∀ a, a < 3 → ∀ b, b < 3 → a ≠ b → (T_Ou a).2.1 ≠ (T_Ou b).2.1 := by decide +kernel
theorem tyok_Ou : ∀ k, k < 3 → parseFieldDescriptor (T_Ou k).2.2.1 = some (ty_Ou k) := by decide +kernel
def R_Rd : String := "RecordNode$Reader"
def T_Rd : u_T := fun k => match k with
  | 0 => ("RecordNode$Reader", "tree", "LRecordNode$Tree;", true)
  | 1 => ("RecordNode$Reader", "nodes", "[I", true)
  | 2 => ("RecordNode$Reader", "ends", "[I", true)
  | 3 => ("RecordNode$Reader", "isOpen", "[Z", true)
  | 4 => ("RecordNode$Reader", "counts", "[I", true)
  | 5 => ("RecordNode$Reader", "lastTags", "[I", true)
  | 6 => ("RecordNode$Reader", "source", "LRecordNode$Bytes;", false)
  | 7 => ("RecordNode$Reader", "syntax", "I", false)
  | 8 => ("RecordNode$Reader", "position", "I", false)
  | 9 => ("RecordNode$Reader", "level", "I", false)
  | _ => ("RecordNode$Reader", "result", "I", false)
def ty_Rd : Nat → FieldType := fun k => match k with
  | 0 => .object "RecordNode$Tree"
  | 1 => .array .int
  | 2 => .array .int
  | 3 => .array .boolean
  | 4 => .array .int
  | 5 => .array .int
  | 6 => .object "RecordNode$Bytes"
  | 7 => .int
  | 8 => .int
  | 9 => .int
  | _ => .int
theorem nm_Rd : ∀ a, a < 11 → ∀ b, b < 11 → a ≠ b → (T_Rd a).2.1 ≠ (T_Rd b).2.1 := by decide +kernel
theorem tyok_Rd : ∀ k, k < 11 → parseFieldDescriptor (T_Rd k).2.2.1 = some (ty_Rd k) := by decide +kernel
def R_Rs : String := "RecordNode$Records"
def T_Rs : u_T := fun k => match k with
  | 0 => ("RecordNode$Records", "names", "[LRecordNode$Bytes;", true)
  | 1 => ("RecordNode$Records", "bytes", "[LRecordNode$Bytes;", true)
  | _ => ("RecordNode$Records", "count", "I", false)
def ty_Rs : Nat → FieldType := fun k => match k with
  | 0 => .array (.object "RecordNode$Bytes")
  | 1 => .array (.object "RecordNode$Bytes")
  | _ => .int
theorem nm_Rs : ∀ a, a < 3 → ∀ b, b < 3 → a ≠ b → (T_Rs a).2.1 ≠ (T_Rs b).2.1 := by decide +kernel
theorem tyok_Rs : ∀ k, k < 3 → parseFieldDescriptor (T_Rs k).2.2.1 = some (ty_Rs k) := by decide +kernel
def R_Tr : String := "RecordNode$Tree"
def T_Tr : u_T := fun k => match k with
  | 0 => ("RecordNode$Tree", "tags", "[I", true)
  | 1 => ("RecordNode$Tree", "behind", "[I", true)
  | 2 => ("RecordNode$Tree", "values", "[I", true)
  | 3 => ("RecordNode$Tree", "lengths", "[I", true)
  | 4 => ("RecordNode$Tree", "characters", "[I", true)
  | 5 => ("RecordNode$Tree", "count", "I", false)
  | _ => ("RecordNode$Tree", "characterCount", "I", false)
def ty_Tr : Nat → FieldType := fun k => match k with
  | 0 => .array .int
  | 1 => .array .int
  | 2 => .array .int
  | 3 => .array .int
  | 4 => .array .int
  | 5 => .int
  | _ => .int
theorem nm_Tr : ∀ a, a < 7 → ∀ b, b < 7 → a ≠ b → (T_Tr a).2.1 ≠ (T_Tr b).2.1 := by decide +kernel
theorem tyok_Tr : ∀ k, k < 7 → parseFieldDescriptor (T_Tr k).2.2.1 = some (ty_Tr k) := by decide +kernel
def R_Rn : String := "RecordNode"
def T_Rn : u_T := fun k => match k with
  | 0 => ("RecordNode", "draft", "LRecordNode$Bytes;", true)
  | 1 => ("RecordNode", "canonical", "LRecordNode$Bytes;", true)
  | 2 => ("RecordNode", "name", "LRecordNode$Bytes;", true)
  | 3 => ("RecordNode", "input", "LRecordNode$Bytes;", true)
  | 4 => ("RecordNode", "part", "LRecordNode$Bytes;", true)
  | 5 => ("RecordNode", "body", "LRecordNode$Bytes;", true)
  | 6 => ("RecordNode", "output", "LRecordNode$Output;", true)
  | 7 => ("RecordNode", "contexts", "LRecordNode$Contexts;", true)
  | 8 => ("RecordNode", "message", "LRecordNode$Message;", true)
  | 9 => ("RecordNode", "records", "LRecordNode$Records;", true)
  | 10 => ("RecordNode", "reader", "LRecordNode$Reader;", true)
  | 11 => ("RecordNode", "recordReader", "LRecordNode$Reader;", true)
  | 12 => ("RecordNode", "matcher", "LRecordNode$Matcher;", true)
  | 13 => ("RecordNode", "phase", "I", false)
  | 14 => ("RecordNode", "timer", "I", false)
  | _ => ("RecordNode", "answered", "I", false)
def ty_Rn : Nat → FieldType := fun k => match k with
  | 0 => .object "RecordNode$Bytes"
  | 1 => .object "RecordNode$Bytes"
  | 2 => .object "RecordNode$Bytes"
  | 3 => .object "RecordNode$Bytes"
  | 4 => .object "RecordNode$Bytes"
  | 5 => .object "RecordNode$Bytes"
  | 6 => .object "RecordNode$Output"
  | 7 => .object "RecordNode$Contexts"
  | 8 => .object "RecordNode$Message"
  | 9 => .object "RecordNode$Records"
  | 10 => .object "RecordNode$Reader"
  | 11 => .object "RecordNode$Reader"
  | 12 => .object "RecordNode$Matcher"
  | 13 => .int
  | 14 => .int
  | _ => .int
theorem nm_Rn : ∀ a, a < 16 → ∀ b, b < 16 → a ≠ b → (T_Rn a).2.1 ≠ (T_Rn b).2.1 := by decide +kernel
theorem tyok_Rn : ∀ k, k < 16 → parseFieldDescriptor (T_Rn k).2.2.1 = some (ty_Rn k) := by decide +kernel
def R_Mo : String := "RecordNodeModel"
def T_Mo : u_T := fun k => match k with
  | 0 => ("RecordNodeModel", "room", "I", true)
  | 1 => ("RecordNodeModel", "code", "I", false)
  | 2 => ("RecordNodeModel", "draft", "[I", true)
  | 3 => ("RecordNodeModel", "drafted", "I", false)
  | 4 => ("RecordNodeModel", "source", "[I", true)
  | 5 => ("RecordNodeModel", "fault", "I", false)
  | 6 => ("RecordNodeModel", "count", "[I", true)
  | 7 => ("RecordNodeModel", "kind", "[I", true)
  | 8 => ("RecordNodeModel", "tag", "[I", true)
  | 9 => ("RecordNodeModel", "value", "[I", true)
  | 10 => ("RecordNodeModel", "letters", "[I", true)
  | 11 => ("RecordNodeModel", "parent", "[I", true)
  | 12 => ("RecordNodeModel", "first", "[I", true)
  | 13 => ("RecordNodeModel", "next", "[I", true)
  | 14 => ("RecordNodeModel", "last", "[I", true)
  | 15 => ("RecordNodeModel", "many", "[I", true)
  | 16 => ("RecordNodeModel", "size", "[I", true)
  | 17 => ("RecordNodeModel", "number", "[I", true)
  | 18 => ("RecordNodeModel", "chars", "[I", true)
  | 19 => ("RecordNodeModel", "held", "[I", true)
  | 20 => ("RecordNodeModel", "fits", "[Z", true)
  | 21 => ("RecordNodeModel", "depth", "I", false)
  | 22 => ("RecordNodeModel", "node", "[I", true)
  | 23 => ("RecordNodeModel", "end", "[I", true)
  | 24 => ("RecordNodeModel", "loose", "[Z", true)
  | 25 => ("RecordNodeModel", "at", "I", false)
  | 26 => ("RecordNodeModel", "made", "[I", true)
  | 27 => ("RecordNodeModel", "makes", "I", false)
  | 28 => ("RecordNodeModel", "line", "I", false)
  | 29 => ("RecordNodeModel", "timer", "I", false)
  | 30 => ("RecordNodeModel", "input", "[I", true)
  | 31 => ("RecordNodeModel", "inputs", "I", false)
  | 32 => ("RecordNodeModel", "output", "[I", true)
  | 33 => ("RecordNodeModel", "outputs", "I", false)
  | 34 => ("RecordNodeModel", "contexts", "I", false)
  | 35 => ("RecordNodeModel", "ids", "[I", true)
  | 36 => ("RecordNodeModel", "services", "[I", true)
  | 37 => ("RecordNodeModel", "results", "[I", true)
  | 38 => ("RecordNodeModel", "wanted", "I", false)
  | 39 => ("RecordNodeModel", "command", "[I", true)
  | 40 => ("RecordNodeModel", "commands", "I", false)
  | 41 => ("RecordNodeModel", "body", "[I", true)
  | 42 => ("RecordNodeModel", "bodies", "I", false)
  | 43 => ("RecordNodeModel", "speaker", "I", false)
  | 44 => ("RecordNodeModel", "what", "I", false)
  | 45 => ("RecordNodeModel", "message", "I", false)
  | 46 => ("RecordNodeModel", "answered", "I", false)
  | 47 => ("RecordNodeModel", "records", "I", false)
  | 48 => ("RecordNodeModel", "kept", "[I", true)
  | _ => ("RecordNodeModel", "lengths", "[I", true)
def ty_Mo : Nat → FieldType := fun k => match k with
  | 0 => .int
  | 1 => .int
  | 2 => .array .int
  | 3 => .int
  | 4 => .array .int
  | 5 => .int
  | 6 => .array .int
  | 7 => .array .int
  | 8 => .array .int
  | 9 => .array .int
  | 10 => .array .int
  | 11 => .array .int
  | 12 => .array .int
  | 13 => .array .int
  | 14 => .array .int
  | 15 => .array .int
  | 16 => .array .int
  | 17 => .array .int
  | 18 => .array .int
  | 19 => .array .int
  | 20 => .array .boolean
  | 21 => .int
  | 22 => .array .int
  | 23 => .array .int
  | 24 => .array .boolean
  | 25 => .int
  | 26 => .array .int
  | 27 => .int
  | 28 => .int
  | 29 => .int
  | 30 => .array .int
  | 31 => .int
  | 32 => .array .int
  | 33 => .int
  | 34 => .int
  | 35 => .array .int
  | 36 => .array .int
  | 37 => .array .int
  | 38 => .int
  | 39 => .array .int
  | 40 => .int
  | 41 => .array .int
  | 42 => .int
  | 43 => .int
  | 44 => .int
  | 45 => .int
  | 46 => .int
  | 47 => .int
  | 48 => .array .int
  | _ => .array .int
theorem nm_Mo : ∀ a, a < 50 → ∀ b, b < 50 → a ≠ b → (T_Mo a).2.1 ≠ (T_Mo b).2.1 := by decide +kernel
theorem tyok_Mo : ∀ k, k < 50 → parseFieldDescriptor (T_Mo k).2.2.1 = some (ty_Mo k) := by decide +kernel
abbrev vwCl : List vw_C := [(R_Bs, T_Bs, 2), (R_Cs, T_Cs, 4), (R_Mr, T_Mr, 1), (R_Mg, T_Mg, 5), (R_Ou, T_Ou, 3), (R_Rd, T_Rd, 11), (R_Rs, T_Rs, 3), (R_Tr, T_Tr, 7), (R_Rn, T_Rn, 16), (R_Mo, T_Mo, 50)]
def y_Rn_type : MethodName := ⟨R_Rn, "type", "(JI)Z"⟩
def y_Rn_isCount : MethodName := ⟨R_Rn, "isCount", "(I)Z"⟩
def y_Bs_hasRoom : MethodName := ⟨R_Bs, "hasRoom", "(I)Z"⟩
def y_Rn_byteOf : MethodName := ⟨R_Rn, "byteOf", "(JI)I"⟩
def y_Bs_append : MethodName := ⟨R_Bs, "append", "(I)V"⟩
def y_Rn_clear : MethodName := ⟨R_Rn, "clear", "()V"⟩
def y_Bs_reset : MethodName := ⟨R_Bs, "reset", "()V"⟩
def y_Rn_open : MethodName := ⟨R_Rn, "open", "()Z"⟩
def y_Rn_begin : MethodName := ⟨R_Rn, "begin", "(I)V"⟩
def y_Rn_close : MethodName := ⟨R_Rn, "close", "()Z"⟩
def y_Rn_shut : MethodName := ⟨R_Rn, "shut", "()V"⟩
def y_Mg_reset : MethodName := ⟨R_Mg, "reset", "()V"⟩
def y_Rn_send : MethodName := ⟨R_Rn, "send", "()Z"⟩
def y_Bs_count : MethodName := ⟨R_Bs, "count", "()I"⟩
def y_Bs_get : MethodName := ⟨R_Bs, "get", "(I)I"⟩
def y_Rn_byteIn : MethodName := ⟨R_Rn, "byteIn", "(I)V"⟩
def y_Rn_refuseLength : MethodName := ⟨R_Rn, "refuseLength", "()V"⟩
def y_Rn_breakOff : MethodName := ⟨R_Rn, "breakOff", "()V"⟩
def y_Rn_put : MethodName := ⟨R_Rn, "put", "(I)Z"⟩
def y_Ou_hasRoom : MethodName := ⟨R_Ou, "hasRoom", "(I)Z"⟩
def y_Ou_push : MethodName := ⟨R_Ou, "push", "(I)V"⟩
def y_Rn_lookAtPiece : MethodName := ⟨R_Rn, "lookAtPiece", "()V"⟩
def y_Rn_lookAtRequest : MethodName := ⟨R_Rn, "lookAtRequest", "(I)V"⟩
def y_Cs_readRequest : MethodName := ⟨R_Cs, "readRequest", "(LRecordNode$Bytes;)Z"⟩
def y_Cs_find : MethodName := ⟨R_Cs, "find", "(I)I"⟩
def y_Cs_resultOf : MethodName := ⟨R_Cs, "resultOf", "(II)I"⟩
def y_Rn_refuse : MethodName := ⟨R_Rn, "refuse", "(I)V"⟩
def y_Rn_accept : MethodName := ⟨R_Rn, "accept", "()V"⟩
def y_Cs_count : MethodName := ⟨R_Cs, "count", "()I"⟩
def y_Cs_id : MethodName := ⟨R_Cs, "id", "(I)I"⟩
def y_Cs_has : MethodName := ⟨R_Cs, "has", "(I)Z"⟩
def y_Cs_result : MethodName := ⟨R_Cs, "result", "(I)I"⟩
def y_Rn_release : MethodName := ⟨R_Rn, "release", "()V"⟩
def y_Rn_takeFragment : MethodName := ⟨R_Rn, "takeFragment", "()Z"⟩
def y_Cs_isUsable : MethodName := ⟨R_Cs, "isUsable", "(I)Z"⟩
def y_Mg_wants : MethodName := ⟨R_Mg, "wants", "(ZI)Z"⟩
def y_Mg_wantsSet : MethodName := ⟨R_Mg, "wantsSet", "()Z"⟩
def y_Mg_addFragment : MethodName := ⟨R_Mg, "addFragment", "(IZ)V"⟩
def y_Mg_isCommandThere : MethodName := ⟨R_Mg, "isCommandThere", "()Z"⟩
def y_Rn_lookAtCommand : MethodName := ⟨R_Rn, "lookAtCommand", "()V"⟩
def y_Rd_read : MethodName := ⟨R_Rd, "read", "(LRecordNode$Bytes;I)I"⟩
def y_Tr_reset : MethodName := ⟨R_Tr, "reset", "()V"⟩
def y_Rd_enter : MethodName := ⟨R_Rd, "enter", "(IIZ)V"⟩
def y_Tr_add : MethodName := ⟨R_Tr, "add", "(III)I"⟩
def y_Rd_endLevel : MethodName := ⟨R_Rd, "endLevel", "()V"⟩
def y_Rd_fail : MethodName := ⟨R_Rd, "fail", "(II)V"⟩
def y_Rd_leave : MethodName := ⟨R_Rd, "leave", "()V"⟩
def y_Tr_finish : MethodName := ⟨R_Tr, "finish", "(I)V"⟩
def y_Rd_isEndMark : MethodName := ⟨R_Rd, "isEndMark", "(I)Z"⟩
def y_Rd_readElement : MethodName := ⟨R_Rd, "readElement", "()V"⟩
def y_Rn_kindOf : MethodName := ⟨R_Rn, "kindOf", "(I)I"⟩
def y_Rd_readKind : MethodName := ⟨R_Rd, "readKind", "(I)Z"⟩
def y_Rd_readLength : MethodName := ⟨R_Rd, "readLength", "(I)I"⟩
def y_Rd_isLength : MethodName := ⟨R_Rd, "isLength", "(II)Z"⟩
def y_Rd_readNumber : MethodName := ⟨R_Rd, "readNumber", "(II)V"⟩
def y_Tr_numberLength : MethodName := ⟨R_Tr, "numberLength", "(I)I"⟩
def y_Rd_readText : MethodName := ⟨R_Rd, "readText", "(II)V"⟩
def y_Tr_characterCount : MethodName := ⟨R_Tr, "characterCount", "()I"⟩
def y_Tr_addCharacter : MethodName := ⟨R_Tr, "addCharacter", "(I)V"⟩
def y_Rd_endOf : MethodName := ⟨R_Rd, "endOf", "(I)I"⟩
def y_Rd_readItem : MethodName := ⟨R_Rd, "readItem", "()V"⟩
def y_Rd_tree : MethodName := ⟨R_Rd, "tree", "()LRecordNode$Tree;"⟩
def y_Mg_understand : MethodName := ⟨R_Mg, "understand", "(LRecordNode$Tree;)Z"⟩
def y_Tr_find : MethodName := ⟨R_Tr, "find", "(II)I"⟩
def y_Tr_behind : MethodName := ⟨R_Tr, "behind", "(I)I"⟩
def y_Tr_tag : MethodName := ⟨R_Tr, "tag", "(I)I"⟩
def y_Tr_number : MethodName := ⟨R_Tr, "number", "(I)I"⟩
def y_Mg_isWhole : MethodName := ⟨R_Mg, "isWhole", "()Z"⟩
def y_Rn_answer : MethodName := ⟨R_Rn, "answer", "()V"⟩
def y_Mg_contextIndex : MethodName := ⟨R_Mg, "contextIndex", "()I"⟩
def y_Mg_kind : MethodName := ⟨R_Mg, "kind", "()I"⟩
def y_Mg_hasSet : MethodName := ⟨R_Mg, "hasSet", "()Z"⟩
def y_Cs_service : MethodName := ⟨R_Cs, "service", "(I)I"⟩
def y_Rn_reply : MethodName := ⟨R_Rn, "reply", "(IZ)V"⟩
def y_Rn_startData : MethodName := ⟨R_Rn, "startData", "(I)V"⟩
def y_Tr_writeNumber : MethodName := ⟨R_Tr, "writeNumber", "(IIILRecordNode$Bytes;)V"⟩
def y_Mg_number : MethodName := ⟨R_Mg, "number", "()I"⟩
def y_Rn_store : MethodName := ⟨R_Rn, "store", "()I"⟩
def y_Tr_writeAll : MethodName := ⟨R_Tr, "writeAll", "(ILRecordNode$Bytes;)Z"⟩
def y_Tr_writeNode : MethodName := ⟨R_Tr, "writeNode", "(IILRecordNode$Bytes;)Z"⟩
def y_Tr_valueLength : MethodName := ⟨R_Tr, "valueLength", "(II)I"⟩
def y_Tr_character : MethodName := ⟨R_Tr, "character", "(II)I"⟩
def y_Tr_textLength : MethodName := ⟨R_Tr, "textLength", "(I)I"⟩
def y_Tr_copyText : MethodName := ⟨R_Tr, "copyText", "(ILRecordNode$Bytes;)V"⟩
def y_Rs_keep : MethodName := ⟨R_Rs, "keep", "(LRecordNode$Bytes;LRecordNode$Bytes;)Z"⟩
def y_Bs_isSame : MethodName := ⟨R_Bs, "isSame", "(LRecordNode$Bytes;)Z"⟩
def y_Bs_become : MethodName := ⟨R_Bs, "become", "(LRecordNode$Bytes;)V"⟩
def y_Rn_find : MethodName := ⟨R_Rn, "find", "()V"⟩
def y_Rs_count : MethodName := ⟨R_Rs, "count", "()I"⟩
def y_Rs_bytes : MethodName := ⟨R_Rs, "bytes", "(I)LRecordNode$Bytes;"⟩
def y_Mr_matches : MethodName := ⟨R_Mr, "matches", "(LRecordNode$Tree;ILRecordNode$Tree;II)Z"⟩
def y_Mr_fits : MethodName := ⟨R_Mr, "fits", "(LRecordNode$Tree;ILRecordNode$Tree;II)Z"⟩
def y_Mr_textFits : MethodName := ⟨R_Mr, "textFits", "(LRecordNode$Tree;ILRecordNode$Tree;I)Z"⟩
def y_Tr_writeChosen : MethodName := ⟨R_Tr, "writeChosen", "(LRecordNode$Tree;ILRecordNode$Bytes;)V"⟩
def y_Rn_tick : MethodName := ⟨R_Rn, "tick", "()I"⟩
def y_Rn_state : MethodName := ⟨R_Rn, "state", "(I)I"⟩
def y_Ou_count : MethodName := ⟨R_Ou, "count", "()I"⟩
def y_Rn_context : MethodName := ⟨R_Rn, "context", "(I)I"⟩
def y_Rn_check : MethodName := ⟨R_Rn, "check", "(I)I"⟩
def y_Rn_isSyntax : MethodName := ⟨R_Rn, "isSyntax", "(I)Z"⟩
def y_Rn_convert : MethodName := ⟨R_Rn, "convert", "(II)I"⟩
def y_Rn_at : MethodName := ⟨R_Rn, "at", "(I)I"⟩
def y_Rn_feed : MethodName := ⟨R_Rn, "feed", "(JI)Z"⟩
def y_Rn_take : MethodName := ⟨R_Rn, "take", "()I"⟩
def y_Ou_pull : MethodName := ⟨R_Ou, "pull", "()I"⟩
def y_Rn_record : MethodName := ⟨R_Rn, "record", "(II)I"⟩
def y_Mo_thrown : MethodName := ⟨R_Mo, "thrown", "()I"⟩
def y_Mo_type : MethodName := ⟨R_Mo, "type", "(JI)Z"⟩
def y_Mo_in : MethodName := ⟨R_Mo, "in", "(III)Z"⟩
def y_Mo_clear : MethodName := ⟨R_Mo, "clear", "()V"⟩
def y_Mo_check : MethodName := ⟨R_Mo, "check", "(I)I"⟩
def y_Mo_readDraft : MethodName := ⟨R_Mo, "readDraft", "(I)Z"⟩
def y_Mo_read : MethodName := ⟨R_Mo, "read", "(III)Z"⟩
def y_Mo_add : MethodName := ⟨R_Mo, "add", "(III)I"⟩
def y_Mo_push : MethodName := ⟨R_Mo, "push", "(IIZ)V"⟩
def y_Mo_goOn : MethodName := ⟨R_Mo, "goOn", "(II)Z"⟩
def y_Mo_wrong : MethodName := ⟨R_Mo, "wrong", "(II)Z"⟩
def y_Mo_element : MethodName := ⟨R_Mo, "element", "(II)Z"⟩
def y_Mo_whole : MethodName := ⟨R_Mo, "whole", "(II)Z"⟩
def y_Mo_spelled : MethodName := ⟨R_Mo, "spelled", "(III)Z"⟩
def y_Mo_item : MethodName := ⟨R_Mo, "item", "(I)Z"⟩
def y_Mo_convert : MethodName := ⟨R_Mo, "convert", "(II)I"⟩
def y_Mo_canonical : MethodName := ⟨R_Mo, "canonical", "(II)Z"⟩
def y_Mo_measure : MethodName := ⟨R_Mo, "measure", "(II)Z"⟩
def y_Mo_bytesOf : MethodName := ⟨R_Mo, "bytesOf", "(I)I"⟩
def y_Mo_write : MethodName := ⟨R_Mo, "write", "(III)V"⟩
def y_Mo_make : MethodName := ⟨R_Mo, "make", "(I)V"⟩
def y_Mo_fails : MethodName := ⟨R_Mo, "fails", "(I)I"⟩
def y_Mo_at : MethodName := ⟨R_Mo, "at", "(I)I"⟩
def y_Mo_open : MethodName := ⟨R_Mo, "open", "()Z"⟩
def y_Mo_comesTo : MethodName := ⟨R_Mo, "comesTo", "(I)V"⟩
def y_Mo_forget : MethodName := ⟨R_Mo, "forget", "()V"⟩
def y_Mo_close : MethodName := ⟨R_Mo, "close", "()Z"⟩
def y_Mo_shut : MethodName := ⟨R_Mo, "shut", "()V"⟩
def y_Mo_feed : MethodName := ⟨R_Mo, "feed", "(JI)Z"⟩
def y_Mo_comes : MethodName := ⟨R_Mo, "comes", "(I)V"⟩
def y_Mo_breakOff : MethodName := ⟨R_Mo, "breakOff", "()V"⟩
def y_Mo_sends : MethodName := ⟨R_Mo, "sends", "(I)Z"⟩
def y_Mo_piece : MethodName := ⟨R_Mo, "piece", "(II)V"⟩
def y_Mo_isRequest : MethodName := ⟨R_Mo, "isRequest", "(I)Z"⟩
def y_Mo_request : MethodName := ⟨R_Mo, "request", "(I)V"⟩
def y_Mo_fragment : MethodName := ⟨R_Mo, "fragment", "(I)Z"⟩
def y_Mo_contextOf : MethodName := ⟨R_Mo, "contextOf", "(I)I"⟩
def y_Mo_answer : MethodName := ⟨R_Mo, "answer", "(Z)V"⟩
def y_Mo_replies : MethodName := ⟨R_Mo, "replies", "(IZ)Z"⟩
def y_Mo_number : MethodName := ⟨R_Mo, "number", "(II)V"⟩
def y_Mo_store : MethodName := ⟨R_Mo, "store", "(Z)V"⟩
def y_Mo_placeOf : MethodName := ⟨R_Mo, "placeOf", "(I)I"⟩
def y_Mo_load : MethodName := ⟨R_Mo, "load", "(I)V"⟩
def y_Mo_find : MethodName := ⟨R_Mo, "find", "(I)V"⟩
def y_Mo_matches : MethodName := ⟨R_Mo, "matches", "()Z"⟩
def y_Mo_sets : MethodName := ⟨R_Mo, "sets", "(I)I"⟩
def y_Mo_fitsSet : MethodName := ⟨R_Mo, "fitsSet", "(II)Z"⟩
def y_Mo_fitsElement : MethodName := ⟨R_Mo, "fitsElement", "(II)Z"⟩
def y_Mo_likes : MethodName := ⟨R_Mo, "likes", "(II)Z"⟩
def y_Mo_shows : MethodName := ⟨R_Mo, "shows", "(I)Z"⟩
def y_Mo_commanded : MethodName := ⟨R_Mo, "commanded", "()Z"⟩
def y_Mo_numberAt : MethodName := ⟨R_Mo, "numberAt", "(III)I"⟩
def y_Mo_send : MethodName := ⟨R_Mo, "send", "()Z"⟩
def y_Mo_tick : MethodName := ⟨R_Mo, "tick", "()I"⟩
def y_Mo_take : MethodName := ⟨R_Mo, "take", "()I"⟩
def y_Mo_state : MethodName := ⟨R_Mo, "state", "(I)I"⟩
def y_Mo_context : MethodName := ⟨R_Mo, "context", "(I)I"⟩
def y_Mo_record : MethodName := ⟨R_Mo, "record", "(II)I"⟩
/-- the tables' words that hold at every later state too -/
def TB : List Cond := lw_tbl.filter goodWord
theorem TB_in {w : Cond} (i : Nat) (h : lw_tbl[i]? = some w) (g : goodWord w = true) : w ∈ TB := List.mem_filter.mpr ⟨List.mem_of_getElem? h, g⟩
theorem TB_good {w : Cond} (h : w ∈ TB) : (w.onTables && w.keeps) = true ∨ ∃ ty, w = .arrayClass ty := good_of_word (List.mem_filter.mp h).2
theorem gd_0 {cw : Cond} (h5 : cw ∈ TB) : GoodIn TB (cw :: TB) := fun w h => (List.mem_cons.mp h).elim (fun e => e ▸ ⟨h5, TB_good h5⟩) (fun h => ⟨h, TB_good h⟩)
theorem gd_V {own C : String} {idx : Nat} {y : MethodName} {cw : Cond} (h1 : Cond.methodLink own idx y ∈ TB) (h2 : Cond.instanceMethod y ∈ TB) (h3 : Cond.selects C y y ∈ TB) (h4 : Cond.initialized C ∈ TB) (h5 : cw ∈ TB) : GoodIn TB (wsV own idx C y (cw :: TB)) := fun w h => by
  have hh : w ∈ TB := by
    unfold wsV at h
    rcases List.mem_append.mp h with h | h
    · simp only [List.mem_cons, List.not_mem_nil, or_false] at h
      rcases h with rfl | rfl | rfl | rfl <;> assumption
    · exact (gd_0 h5 w h).1
  exact ⟨hh, TB_good hh⟩
theorem gd_S {own : String} {idx : Nat} {y : MethodName} {cw : Cond} (h1 : Cond.methodLink own idx y ∈ TB) (h2 : Cond.static y ∈ TB) (h4 : Cond.initialized y.cls ∈ TB) (h5 : cw ∈ TB) : GoodIn TB (va_wsS own idx y (cw :: TB)) := fun w h => by
  have hh : w ∈ TB := by
    unfold va_wsS at h
    rcases List.mem_append.mp h with h | h
    · simp only [List.mem_cons, List.not_mem_nil, or_false] at h
      rcases h with rfl | rfl | rfl <;> assumption
    · exact (gd_0 h5 w h).1
  exact ⟨hh, TB_good hh⟩
theorem TB_ws {C : String} {T : u_T} {N : Nat} (h : ((List.range N).map (u_lay C T)).all (fun w => decide (w ∈ tables_1) && goodWord w) = true) : ∀ w ∈ u_ws C T N, w ∈ TB := fun w hw => by
  have h1 := List.all_eq_true.mp h w hw
  simp only [Bool.and_eq_true, decide_eq_true_eq] at h1
  exact List.mem_filter.mpr ⟨List.mem_append_right _ h1.1, h1.2⟩
theorem in_Bs : ∀ w ∈ u_ws R_Bs T_Bs 2, w ∈ TB := TB_ws (by decide +kernel)
theorem in_Cs : ∀ w ∈ u_ws R_Cs T_Cs 4, w ∈ TB := TB_ws (by decide +kernel)
theorem in_Mr : ∀ w ∈ u_ws R_Mr T_Mr 1, w ∈ TB := TB_ws (by decide +kernel)
theorem in_Mg : ∀ w ∈ u_ws R_Mg T_Mg 5, w ∈ TB := TB_ws (by decide +kernel)
theorem in_Ou : ∀ w ∈ u_ws R_Ou T_Ou 3, w ∈ TB := TB_ws (by decide +kernel)
theorem in_Rd : ∀ w ∈ u_ws R_Rd T_Rd 11, w ∈ TB := TB_ws (by decide +kernel)
theorem in_Rs : ∀ w ∈ u_ws R_Rs T_Rs 3, w ∈ TB := TB_ws (by decide +kernel)
theorem in_Tr : ∀ w ∈ u_ws R_Tr T_Tr 7, w ∈ TB := TB_ws (by decide +kernel)
theorem in_Rn : ∀ w ∈ u_ws R_Rn T_Rn 16, w ∈ TB := TB_ws (by decide +kernel)
theorem in_Mo : ∀ w ∈ u_ws R_Mo T_Mo 50, w ∈ TB := TB_ws (by decide +kernel)
