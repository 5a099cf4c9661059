def RX0 : String := "RollSync$Archive"
def TX0 : u_T := fun k => match k with
  | 0 => ("RollSync$Archive", "kept", "[LRollSync$Version;", true)
  | 1 => ("RollSync$Archive", "chain", "[I", true)
  | 2 => ("RollSync$Archive", "baseSignature", "LRollSync$Signature;", true)
  | 3 => ("RollSync$Archive", "rebuilt", "LRollSync$Row;", true)
  | 4 => ("RollSync$Archive", "next", "LRollSync$Row;", true)
  | 5 => ("RollSync$Archive", "count", "I", false)
  | 6 => ("RollSync$Archive", "where", "I", false)
  | 7 => ("RollSync$Archive", "away", "I", false)
  | _ => ("RollSync$Archive", "why", "I", false)
def tyX0 : Nat → FieldType := fun k => match k with
  | 0 => .array (.object "RollSync$Version")
  | 1 => .array .int
  | 2 => .object "RollSync$Signature"
  | 3 => .object "RollSync$Row"
  | 4 => .object "RollSync$Row"
  | 5 => .int
  | 6 => .int
  | 7 => .int
  | _ => .int
abbrev wsX00 : List Cond := u_ws RX0 TX0 9
theorem nmX0 : ∀ a, a < 9 → ∀ b, b < 9 → a ≠ b → (TX0 a).2.1 ≠ (TX0 b).2.1 := by decide +kernel
theorem tyX0_ok : ∀ k, k < 9 → parseFieldDescriptor (TX0 k).2.2.1 = some (tyX0 k) := by decide +kernel
abbrev cX0_init : ByteArray := prog_2_method_1_code
def yX0_init : MethodName := ⟨RX0, "<init>", "()V"⟩
abbrev cX0_addWhole : ByteArray := prog_2_method_2_code
def yX0_addWhole : MethodName := ⟨RX0, "addWhole", "(LRollSync$Row;)I"⟩
abbrev cX0_addResting : ByteArray := prog_2_method_3_code
def yX0_addResting : MethodName := ⟨RX0, "addResting", "(LRollSync$Row;II)I"⟩
abbrev cX0_putTogether : ByteArray := prog_2_method_4_code
def yX0_putTogether : MethodName := ⟨RX0, "putTogether", "(I)V"⟩
abbrev cX0_climb : ByteArray := prog_2_method_5_code
def yX0_climb : MethodName := ⟨RX0, "climb", "(I)V"⟩
abbrev cX0_breakAt : ByteArray := prog_2_method_6_code
def yX0_breakAt : MethodName := ⟨RX0, "breakAt", "(III)V"⟩
def RX1 : String := "RollSync$Chunk"
def TX1 : u_T := fun k => match k with
  | 0 => ("RollSync$Chunk", "bytes", "[I", true)
  | 1 => ("RollSync$Chunk", "size", "I", false)
  | _ => ("RollSync$Chunk", "timesNamed", "I", false)
def tyX1 : Nat → FieldType := fun k => match k with
  | 0 => .array .int
  | 1 => .int
  | _ => .int
abbrev wsX10 : List Cond := u_ws RX1 TX1 3
theorem nmX1 : ∀ a, a < 3 → ∀ b, b < 3 → a ≠ b → (TX1 a).2.1 ≠ (TX1 b).2.1 := by decide +kernel
theorem tyX1_ok : ∀ k, k < 3 → parseFieldDescriptor (TX1 k).2.2.1 = some (tyX1 k) := by decide +kernel
abbrev cX1_init : ByteArray := prog_3_method_1_code
def yX1_init : MethodName := ⟨RX1, "<init>", "()V"⟩
abbrev cX1_fill : ByteArray := prog_3_method_2_code
def yX1_fill : MethodName := ⟨RX1, "fill", "(LRollSync$Row;II)V"⟩
abbrev cX1_isIn : ByteArray := prog_3_method_3_code
def yX1_isIn : MethodName := ⟨RX1, "isIn", "(LRollSync$Row;II)Z"⟩
def RX2 : String := "RollSync$Delta"
def TX2 : u_T := fun k => match k with
  | 0 => ("RollSync$Delta", "copies", "[Z", true)
  | 1 => ("RollSync$Delta", "starts", "[I", true)
  | 2 => ("RollSync$Delta", "sizes", "[I", true)
  | 3 => ("RollSync$Delta", "compared", "LRollSync$Row;", true)
  | 4 => ("RollSync$Delta", "made", "Z", false)
  | 5 => ("RollSync$Delta", "count", "I", false)
  | 6 => ("RollSync$Delta", "falseAlarms", "I", false)
  | _ => ("RollSync$Delta", "blockBehind", "I", false)
def tyX2 : Nat → FieldType := fun k => match k with
  | 0 => .array .boolean
  | 1 => .array .int
  | 2 => .array .int
  | 3 => .object "RollSync$Row"
  | 4 => .boolean
  | 5 => .int
  | 6 => .int
  | _ => .int
abbrev wsX20 : List Cond := u_ws RX2 TX2 8
theorem nmX2 : ∀ a, a < 8 → ∀ b, b < 8 → a ≠ b → (TX2 a).2.1 ≠ (TX2 b).2.1 := by decide +kernel
theorem tyX2_ok : ∀ k, k < 8 → parseFieldDescriptor (TX2 k).2.2.1 = some (tyX2 k) := by decide +kernel
abbrev cX2_init : ByteArray := prog_4_method_1_code
def yX2_init : MethodName := ⟨RX2, "<init>", "()V"⟩
abbrev cX2_make : ByteArray := prog_4_method_2_code
def yX2_make : MethodName := ⟨RX2, "make", "(LRollSync$Signature;LRollSync$Row;)V"⟩
abbrev cX2_goOn : ByteArray := prog_4_method_3_code
def yX2_goOn : MethodName := ⟨RX2, "goOn", "(LRollSync$Signature;I)I"⟩
abbrev cX2_matchingBlock : ByteArray := prog_4_method_4_code
def yX2_matchingBlock : MethodName := ⟨RX2, "matchingBlock", "(LRollSync$Signature;II)I"⟩
abbrev cX2_addCopy : ByteArray := prog_4_method_5_code
def yX2_addCopy : MethodName := ⟨RX2, "addCopy", "(III)V"⟩
abbrev cX2_addLiteral : ByteArray := prog_4_method_6_code
def yX2_addLiteral : MethodName := ⟨RX2, "addLiteral", "(I)V"⟩
abbrev cX2_begin : ByteArray := prog_4_method_7_code
def yX2_begin : MethodName := ⟨RX2, "begin", "(ZII)V"⟩
abbrev cX2_price : ByteArray := prog_4_method_8_code
def yX2_price : MethodName := ⟨RX2, "price", "()I"⟩
abbrev cX2_fits : ByteArray := prog_4_method_9_code
def yX2_fits : MethodName := ⟨RX2, "fits", "(LRollSync$Row;)Z"⟩
abbrev cX2_give : ByteArray := prog_4_method_10_code
def yX2_give : MethodName := ⟨RX2, "give", "(LRollSync$Row;LRollSync$Row;)V"⟩
def RX3 : String := "RollSync$Paper"
def TX3 : u_T := fun k => match k with
  | 0 => ("RollSync$Paper", "named", "Ljava/util/ArrayList;", true)
  | _ => ("RollSync$Paper", "stored", "Z", false)
def tyX3 : Nat → FieldType := fun k => match k with
  | 0 => .object "java/util/ArrayList"
  | _ => .boolean
abbrev wsX30 : List Cond := u_ws RX3 TX3 2
theorem nmX3 : ∀ a, a < 2 → ∀ b, b < 2 → a ≠ b → (TX3 a).2.1 ≠ (TX3 b).2.1 := by decide +kernel
theorem tyX3_ok : ∀ k, k < 2 → parseFieldDescriptor (TX3 k).2.2.1 = some (tyX3 k) := by decide +kernel
abbrev cX3_init : ByteArray := prog_5_method_1_code
def yX3_init : MethodName := ⟨RX3, "<init>", "()V"⟩
abbrev cX3_writeTo : ByteArray := prog_5_method_2_code
def yX3_writeTo : MethodName := ⟨RX3, "writeTo", "(LRollSync$Row;)V"⟩
def RX4 : String := "RollSync$Row"
def TX4 : u_T := fun k => match k with
  | 0 => ("RollSync$Row", "bytes", "[I", true)
  | _ => ("RollSync$Row", "size", "I", false)
def tyX4 : Nat → FieldType := fun k => match k with
  | 0 => .array .int
  | _ => .int
abbrev wsX40 : List Cond := u_ws RX4 TX4 2
theorem nmX4 : ∀ a, a < 2 → ∀ b, b < 2 → a ≠ b → (TX4 a).2.1 ≠ (TX4 b).2.1 := by decide +kernel
theorem tyX4_ok : ∀ k, k < 2 → parseFieldDescriptor (TX4 k).2.2.1 = some (tyX4 k) := by decide +kernel
abbrev cX4_init : ByteArray := prog_6_method_1_code
def yX4_init : MethodName := ⟨RX4, "<init>", "()V"⟩
abbrev cX4_at : ByteArray := prog_6_method_2_code
def yX4_at : MethodName := ⟨RX4, "at", "(I)I"⟩
abbrev cX4_append : ByteArray := prog_6_method_3_code
def yX4_append : MethodName := ⟨RX4, "append", "(I)V"⟩
abbrev cX4_appendFrom : ByteArray := prog_6_method_4_code
def yX4_appendFrom : MethodName := ⟨RX4, "appendFrom", "(LRollSync$Row;II)V"⟩
abbrev cX4_become : ByteArray := prog_6_method_5_code
def yX4_become : MethodName := ⟨RX4, "become", "(LRollSync$Row;)V"⟩
abbrev cX4_putIn : ByteArray := prog_6_method_6_code
def yX4_putIn : MethodName := ⟨RX4, "putIn", "(II)V"⟩
abbrev cX4_takeOut : ByteArray := prog_6_method_7_code
def yX4_takeOut : MethodName := ⟨RX4, "takeOut", "(II)V"⟩
abbrev cX4_weakSum : ByteArray := prog_6_method_9_code
def yX4_weakSum : MethodName := ⟨RX4, "weakSum", "(III)I"⟩
abbrev cX4_strongSum : ByteArray := prog_6_method_10_code
def yX4_strongSum : MethodName := ⟨RX4, "strongSum", "(II)J"⟩
def RX5 : String := "RollSync$Shelf"
def TX5 : u_T := fun k => match k with
  | 0 => ("RollSync$Shelf", "papers", "[LRollSync$Paper;", true)
  | 1 => ("RollSync$Shelf", "made", "Ljava/util/ArrayList;", true)
  | 2 => ("RollSync$Shelf", "least", "I", false)
  | 3 => ("RollSync$Shelf", "greatest", "I", false)
  | _ => ("RollSync$Shelf", "divisor", "I", false)
def tyX5 : Nat → FieldType := fun k => match k with
  | 0 => .array (.object "RollSync$Paper")
  | 1 => .object "java/util/ArrayList"
  | 2 => .int
  | 3 => .int
  | _ => .int
abbrev wsX50 : List Cond := u_ws RX5 TX5 5
theorem nmX5 : ∀ a, a < 5 → ∀ b, b < 5 → a ≠ b → (TX5 a).2.1 ≠ (TX5 b).2.1 := by decide +kernel
theorem tyX5_ok : ∀ k, k < 5 → parseFieldDescriptor (TX5 k).2.2.1 = some (tyX5 k) := by decide +kernel
abbrev cX5_init : ByteArray := prog_7_method_1_code
def yX5_init : MethodName := ⟨RX5, "<init>", "()V"⟩
abbrev cX5_lowestFree : ByteArray := prog_7_method_2_code
def yX5_lowestFree : MethodName := ⟨RX5, "lowestFree", "()I"⟩
abbrev cX5_putPaper : ByteArray := prog_7_method_3_code
def yX5_putPaper : MethodName := ⟨RX5, "putPaper", "(ILRollSync$Row;)V"⟩
abbrev cX5_endsBehind : ByteArray := prog_7_method_4_code
def yX5_endsBehind : MethodName := ⟨RX5, "endsBehind", "(LRollSync$Row;II)Z"⟩
abbrev cX5_chunkOf : ByteArray := prog_7_method_5_code
def yX5_chunkOf : MethodName := ⟨RX5, "chunkOf", "(LRollSync$Row;II)LRollSync$Chunk;"⟩
abbrev cX5_dropPaper : ByteArray := prog_7_method_6_code
def yX5_dropPaper : MethodName := ⟨RX5, "dropPaper", "(I)I"⟩
abbrev cX5_countPapers : ByteArray := prog_7_method_7_code
def yX5_countPapers : MethodName := ⟨RX5, "countPapers", "()I"⟩
abbrev cX5_countChunks : ByteArray := prog_7_method_8_code
def yX5_countChunks : MethodName := ⟨RX5, "countChunks", "()I"⟩
abbrev cX5_countBytes : ByteArray := prog_7_method_9_code
def yX5_countBytes : MethodName := ⟨RX5, "countBytes", "()I"⟩
def RX6 : String := "RollSync$Signature"
def TX6 : u_T := fun k => match k with
  | 0 => ("RollSync$Signature", "weakSums", "[I", true)
  | 1 => ("RollSync$Signature", "strongSums", "[J", true)
  | 2 => ("RollSync$Signature", "made", "Z", false)
  | 3 => ("RollSync$Signature", "block", "I", false)
  | 4 => ("RollSync$Signature", "modulus", "I", false)
  | 5 => ("RollSync$Signature", "signedBytes", "I", false)
  | _ => ("RollSync$Signature", "count", "I", false)
def tyX6 : Nat → FieldType := fun k => match k with
  | 0 => .array .int
  | 1 => .array .long
  | 2 => .boolean
  | 3 => .int
  | 4 => .int
  | 5 => .int
  | _ => .int
abbrev wsX60 : List Cond := u_ws RX6 TX6 7
theorem nmX6 : ∀ a, a < 7 → ∀ b, b < 7 → a ≠ b → (TX6 a).2.1 ≠ (TX6 b).2.1 := by decide +kernel
theorem tyX6_ok : ∀ k, k < 7 → parseFieldDescriptor (TX6 k).2.2.1 = some (tyX6 k) := by decide +kernel
abbrev cX6_init : ByteArray := prog_8_method_1_code
def yX6_init : MethodName := ⟨RX6, "<init>", "()V"⟩
abbrev cX6_make : ByteArray := prog_8_method_2_code
def yX6_make : MethodName := ⟨RX6, "make", "(LRollSync$Row;II)V"⟩
abbrev cX6_sizeOfBlock : ByteArray := prog_8_method_3_code
def yX6_sizeOfBlock : MethodName := ⟨RX6, "sizeOfBlock", "(I)I"⟩
abbrev cX6_windowFor : ByteArray := prog_8_method_4_code
def yX6_windowFor : MethodName := ⟨RX6, "windowFor", "(I)I"⟩
def RX7 : String := "RollSync$Version"
def TX7 : u_T := fun k => match k with
  | 0 => ("RollSync$Version", "whole", "LRollSync$Row;", true)
  | 1 => ("RollSync$Version", "delta", "LRollSync$Delta;", true)
  | 2 => ("RollSync$Version", "kind", "I", false)
  | _ => ("RollSync$Version", "base", "I", false)
def tyX7 : Nat → FieldType := fun k => match k with
  | 0 => .object "RollSync$Row"
  | 1 => .object "RollSync$Delta"
  | 2 => .int
  | _ => .int
abbrev wsX70 : List Cond := u_ws RX7 TX7 4
theorem nmX7 : ∀ a, a < 4 → ∀ b, b < 4 → a ≠ b → (TX7 a).2.1 ≠ (TX7 b).2.1 := by decide +kernel
theorem tyX7_ok : ∀ k, k < 4 → parseFieldDescriptor (TX7 k).2.2.1 = some (tyX7 k) := by decide +kernel
abbrev cX7_init : ByteArray := prog_9_method_1_code
def yX7_init : MethodName := ⟨RX7, "<init>", "()V"⟩
abbrev cX7_becomeWhole : ByteArray := prog_9_method_2_code
def yX7_becomeWhole : MethodName := ⟨RX7, "becomeWhole", "(LRollSync$Row;)V"⟩
abbrev cX7_holds : ByteArray := prog_9_method_3_code
def yX7_holds : MethodName := ⟨RX7, "holds", "()I"⟩
def RX8 : String := "RollSync"
def TX8 : u_T := fun k => match k with
  | 0 => ("RollSync", "files", "[LRollSync$Row;", true)
  | 1 => ("RollSync", "signatures", "[LRollSync$Signature;", true)
  | 2 => ("RollSync", "deltas", "[LRollSync$Delta;", true)
  | 3 => ("RollSync", "applied", "LRollSync$Row;", true)
  | 4 => ("RollSync", "archive", "LRollSync$Archive;", true)
  | 5 => ("RollSync", "shelf", "LRollSync$Shelf;", true)
  | _ => ("RollSync", "fileCount", "I", false)
def tyX8 : Nat → FieldType := fun k => match k with
  | 0 => .array (.object "RollSync$Row")
  | 1 => .array (.object "RollSync$Signature")
  | 2 => .array (.object "RollSync$Delta")
  | 3 => .object "RollSync$Row"
  | 4 => .object "RollSync$Archive"
  | 5 => .object "RollSync$Shelf"
  | _ => .int
abbrev wsX80 : List Cond := u_ws RX8 TX8 7
theorem nmX8 : ∀ a, a < 7 → ∀ b, b < 7 → a ≠ b → (TX8 a).2.1 ≠ (TX8 b).2.1 := by decide +kernel
theorem tyX8_ok : ∀ k, k < 7 → parseFieldDescriptor (TX8 k).2.2.1 = some (tyX8 k) := by decide +kernel
abbrev cX8_init : ByteArray := prog_1_method_1_code
def yX8_init : MethodName := ⟨RX8, "<init>", "()V"⟩
abbrev cX8_file : ByteArray := prog_1_method_2_code
def yX8_file : MethodName := ⟨RX8, "file", "()I"⟩
abbrev cX8_add : ByteArray := prog_1_method_3_code
def yX8_add : MethodName := ⟨RX8, "add", "(IIII)I"⟩
abbrev cX8_insert : ByteArray := prog_1_method_4_code
def yX8_insert : MethodName := ⟨RX8, "insert", "(III)I"⟩
abbrev cX8_remove : ByteArray := prog_1_method_5_code
def yX8_remove : MethodName := ⟨RX8, "remove", "(III)I"⟩
abbrev cX8_copy : ByteArray := prog_1_method_6_code
def yX8_copy : MethodName := ⟨RX8, "copy", "(II)V"⟩
abbrev cX8_length : ByteArray := prog_1_method_7_code
def yX8_length : MethodName := ⟨RX8, "length", "(I)I"⟩
abbrev cX8_byteAt : ByteArray := prog_1_method_8_code
def yX8_byteAt : MethodName := ⟨RX8, "byteAt", "(II)I"⟩
abbrev cX8_sign : ByteArray := prog_1_method_10_code
def yX8_sign : MethodName := ⟨RX8, "sign", "(IIII)I"⟩
abbrev cX8_blocks : ByteArray := prog_1_method_11_code
def yX8_blocks : MethodName := ⟨RX8, "blocks", "(I)I"⟩
abbrev cX8_weak : ByteArray := prog_1_method_12_code
def yX8_weak : MethodName := ⟨RX8, "weak", "(II)I"⟩
abbrev cX8_strong : ByteArray := prog_1_method_13_code
def yX8_strong : MethodName := ⟨RX8, "strong", "(II)J"⟩
abbrev cX8_compare : ByteArray := prog_1_method_14_code
def yX8_compare : MethodName := ⟨RX8, "compare", "(III)I"⟩
abbrev cX8_instructions : ByteArray := prog_1_method_15_code
def yX8_instructions : MethodName := ⟨RX8, "instructions", "(I)I"⟩
abbrev cX8_isCopy : ByteArray := prog_1_method_16_code
def yX8_isCopy : MethodName := ⟨RX8, "isCopy", "(II)Z"⟩
abbrev cX8_startOf : ByteArray := prog_1_method_17_code
def yX8_startOf : MethodName := ⟨RX8, "startOf", "(II)I"⟩
abbrev cX8_bytesOf : ByteArray := prog_1_method_18_code
def yX8_bytesOf : MethodName := ⟨RX8, "bytesOf", "(II)I"⟩
abbrev cX8_cost : ByteArray := prog_1_method_19_code
def yX8_cost : MethodName := ⟨RX8, "cost", "(I)I"⟩
abbrev cX8_alarms : ByteArray := prog_1_method_20_code
def yX8_alarms : MethodName := ⟨RX8, "alarms", "(I)I"⟩
abbrev cX8_apply : ByteArray := prog_1_method_21_code
def yX8_apply : MethodName := ⟨RX8, "apply", "(III)I"⟩
abbrev cX8_keep : ByteArray := prog_1_method_22_code
def yX8_keep : MethodName := ⟨RX8, "keep", "(I)I"⟩
abbrev cX8_keepDelta : ByteArray := prog_1_method_23_code
def yX8_keepDelta : MethodName := ⟨RX8, "keepDelta", "(III)I"⟩
abbrev cX8_lose : ByteArray := prog_1_method_24_code
def yX8_lose : MethodName := ⟨RX8, "lose", "(I)I"⟩
abbrev cX8_replace : ByteArray := prog_1_method_25_code
def yX8_replace : MethodName := ⟨RX8, "replace", "(II)V"⟩
abbrev cX8_rebuild : ByteArray := prog_1_method_26_code
def yX8_rebuild : MethodName := ⟨RX8, "rebuild", "(II)I"⟩
abbrev cX8_versions : ByteArray := prog_1_method_27_code
def yX8_versions : MethodName := ⟨RX8, "versions", "()I"⟩
abbrev cX8_brokenAt : ByteArray := prog_1_method_28_code
def yX8_brokenAt : MethodName := ⟨RX8, "brokenAt", "(I)I"⟩
abbrev cX8_brokenAfter : ByteArray := prog_1_method_29_code
def yX8_brokenAfter : MethodName := ⟨RX8, "brokenAfter", "(I)I"⟩
abbrev cX8_reason : ByteArray := prog_1_method_30_code
def yX8_reason : MethodName := ⟨RX8, "reason", "(I)I"⟩
abbrev cX8_heldBy : ByteArray := prog_1_method_31_code
def yX8_heldBy : MethodName := ⟨RX8, "heldBy", "(I)I"⟩
abbrev cX8_cuts : ByteArray := prog_1_method_32_code
def yX8_cuts : MethodName := ⟨RX8, "cuts", "(III)V"⟩
abbrev cX8_store : ByteArray := prog_1_method_33_code
def yX8_store : MethodName := ⟨RX8, "store", "(I)I"⟩
abbrev cX8_release : ByteArray := prog_1_method_34_code
def yX8_release : MethodName := ⟨RX8, "release", "(I)I"⟩
abbrev cX8_fetch : ByteArray := prog_1_method_35_code
def yX8_fetch : MethodName := ⟨RX8, "fetch", "(II)I"⟩
abbrev cX8_papers : ByteArray := prog_1_method_36_code
def yX8_papers : MethodName := ⟨RX8, "papers", "()I"⟩
abbrev cX8_chunks : ByteArray := prog_1_method_37_code
def yX8_chunks : MethodName := ⟨RX8, "chunks", "()I"⟩
abbrev cX8_heldBytes : ByteArray := prog_1_method_38_code
def yX8_heldBytes : MethodName := ⟨RX8, "heldBytes", "()I"⟩
abbrev cX8_parts : ByteArray := prog_1_method_39_code
def yX8_parts : MethodName := ⟨RX8, "parts", "(I)I"⟩
abbrev cX8_partLength : ByteArray := prog_1_method_40_code
def yX8_partLength : MethodName := ⟨RX8, "partLength", "(II)I"⟩
abbrev cX8_shared : ByteArray := prog_1_method_41_code
def yX8_shared : MethodName := ⟨RX8, "shared", "(II)I"⟩
abbrev cX8_checkIndex : ByteArray := prog_1_method_42_code
def yX8_checkIndex : MethodName := ⟨RX8, "checkIndex", "(II)V"⟩
abbrev cX8_checkRange : ByteArray := prog_1_method_43_code
def yX8_checkRange : MethodName := ⟨RX8, "checkRange", "(III)V"⟩
abbrev cX8_checkFile : ByteArray := prog_1_method_44_code
def yX8_checkFile : MethodName := ⟨RX8, "checkFile", "(I)V"⟩
abbrev cX8_checkBlock : ByteArray := prog_1_method_45_code
def yX8_checkBlock : MethodName := ⟨RX8, "checkBlock", "(II)V"⟩
abbrev cX8_checkInstruction : ByteArray := prog_1_method_46_code
def yX8_checkInstruction : MethodName := ⟨RX8, "checkInstruction", "(II)V"⟩
abbrev cX8_checkPaper : ByteArray := prog_1_method_47_code
def yX8_checkPaper : MethodName := ⟨RX8, "checkPaper", "(I)V"⟩
abbrev cX8_checkRoomForVersion : ByteArray := prog_1_method_48_code
def yX8_checkRoomForVersion : MethodName := ⟨RX8, "checkRoomForVersion", "()V"⟩
abbrev cX8_checkNotBroken : ByteArray := prog_1_method_49_code
def yX8_checkNotBroken : MethodName := ⟨RX8, "checkNotBroken", "(I)V"⟩
def RX9 : String := "RollSyncModel"
def TX9 : u_T := fun k => match k with
  | _ => ("", "", "", false)
def tyX9 : Nat → FieldType := fun k => match k with
  | _ => .int
abbrev wsX90 : List Cond := u_ws RX9 TX9 0
theorem nmX9 : ∀ a, a < 0 → ∀ b, b < 0 → a ≠ b → (TX9 a).2.1 ≠ (TX9 b).2.1 := by decide +kernel
theorem tyX9_ok : ∀ k, k < 0 → parseFieldDescriptor (TX9 k).2.2.1 = some (tyX9 k) := by decide +kernel
def RJx145de : String := "java/io/Serializable"
def TJx145de : u_T := fun k => match k with
  | _ => ("", "", "", false)
def tyJx145de : Nat → FieldType := fun k => match k with
  | _ => .int
abbrev wsJx145de0 : List Cond := u_ws RJx145de TJx145de 0
theorem nmJx145de : ∀ a, a < 0 → ∀ b, b < 0 → a ≠ b → (TJx145de a).2.1 ≠ (TJx145de b).2.1 := by decide +kernel
theorem tyJx145de_ok : ∀ k, k < 0 → parseFieldDescriptor (TJx145de k).2.2.1 = some (tyJx145de k) := by decide +kernel
def RJx8e188 : String := "java/lang/Cloneable"
def TJx8e188 : u_T := fun k => match k with
  | _ => ("", "", "", false)
def tyJx8e188 : Nat → FieldType := fun k => match k with
  | _ => .int
abbrev wsJx8e1880 : List Cond := u_ws RJx8e188 TJx8e188 0
theorem nmJx8e188 : ∀ a, a < 0 → ∀ b, b < 0 → a ≠ b → (TJx8e188 a).2.1 ≠ (TJx8e188 b).2.1 := by decide +kernel
theorem tyJx8e188_ok : ∀ k, k < 0 → parseFieldDescriptor (TJx8e188 k).2.2.1 = some (tyJx8e188 k) := by decide +kernel
def RJxab1ab : String := "java/lang/Iterable"
def TJxab1ab : u_T := fun k => match k with
  | _ => ("", "", "", false)
def tyJxab1ab : Nat → FieldType := fun k => match k with
  | _ => .int
abbrev wsJxab1ab0 : List Cond := u_ws RJxab1ab TJxab1ab 0
theorem nmJxab1ab : ∀ a, a < 0 → ∀ b, b < 0 → a ≠ b → (TJxab1ab a).2.1 ≠ (TJxab1ab b).2.1 := by decide +kernel
theorem tyJxab1ab_ok : ∀ k, k < 0 → parseFieldDescriptor (TJxab1ab k).2.2.1 = some (tyJxab1ab k) := by decide +kernel
def RJ9 : String := "java/lang/Math"
def TJ9 : u_T := fun k => match k with
  | _ => ("", "", "", false)
def tyJ9 : Nat → FieldType := fun k => match k with
  | _ => .int
abbrev wsJ90 : List Cond := u_ws RJ9 TJ9 0
theorem nmJ9 : ∀ a, a < 0 → ∀ b, b < 0 → a ≠ b → (TJ9 a).2.1 ≠ (TJ9 b).2.1 := by decide +kernel
theorem tyJ9_ok : ∀ k, k < 0 → parseFieldDescriptor (TJ9 k).2.2.1 = some (tyJ9 k) := by decide +kernel
abbrev cJ9_max_7cf53 : ByteArray := prog_19_method_65_code
def yJ9_max_7cf53 : MethodName := ⟨RJ9, "max", "(II)I"⟩
abbrev cJ9_min_7cf53 : ByteArray := prog_19_method_69_code
def yJ9_min_7cf53 : MethodName := ⟨RJ9, "min", "(II)I"⟩
def RJ0 : String := "java/lang/String"
def TJ0 : u_T := fun k => match k with
  | _ => ("", "", "", false)
def tyJ0 : Nat → FieldType := fun k => match k with
  | _ => .int
abbrev wsJ00 : List Cond := u_ws RJ0 TJ0 0
theorem nmJ0 : ∀ a, a < 0 → ∀ b, b < 0 → a ≠ b → (TJ0 a).2.1 ≠ (TJ0 b).2.1 := by decide +kernel
theorem tyJ0_ok : ∀ k, k < 0 → parseFieldDescriptor (TJ0 k).2.2.1 = some (tyJ0 k) := by decide +kernel
def RJ10 : String := "java/lang/System"
def TJ10 : u_T := fun k => match k with
  | _ => ("", "", "", false)
def tyJ10 : Nat → FieldType := fun k => match k with
  | _ => .int
abbrev wsJ100 : List Cond := u_ws RJ10 TJ10 0
theorem nmJ10 : ∀ a, a < 0 → ∀ b, b < 0 → a ≠ b → (TJ10 a).2.1 ≠ (TJ10 b).2.1 := by decide +kernel
theorem tyJ10_ok : ∀ k, k < 0 → parseFieldDescriptor (TJ10 k).2.2.1 = some (tyJ10 k) := by decide +kernel
def RJxa1e45 : String := "java/util/AbstractCollection"
def TJxa1e45 : u_T := fun k => match k with
  | _ => ("", "", "", false)
def tyJxa1e45 : Nat → FieldType := fun k => match k with
  | _ => .int
abbrev wsJxa1e450 : List Cond := u_ws RJxa1e45 TJxa1e45 0
theorem nmJxa1e45 : ∀ a, a < 0 → ∀ b, b < 0 → a ≠ b → (TJxa1e45 a).2.1 ≠ (TJxa1e45 b).2.1 := by decide +kernel
theorem tyJxa1e45_ok : ∀ k, k < 0 → parseFieldDescriptor (TJxa1e45 k).2.2.1 = some (tyJxa1e45 k) := by decide +kernel
abbrev cJxa1e45_init_da8c8 : ByteArray := prog_24_method_1_code
def yJxa1e45_init_da8c8 : MethodName := ⟨RJxa1e45, "<init>", "()V"⟩
def RJxc12de : String := "java/util/AbstractList"
def TJxc12de : u_T := fun k => match k with
  | _ => ("", "", "", false)
def tyJxc12de : Nat → FieldType := fun k => match k with
  | _ => .int
abbrev wsJxc12de0 : List Cond := u_ws RJxc12de TJxc12de 0
theorem nmJxc12de : ∀ a, a < 0 → ∀ b, b < 0 → a ≠ b → (TJxc12de a).2.1 ≠ (TJxc12de b).2.1 := by decide +kernel
theorem tyJxc12de_ok : ∀ k, k < 0 → parseFieldDescriptor (TJxc12de k).2.2.1 = some (tyJxc12de k) := by decide +kernel
abbrev cJxc12de_init_da8c8 : ByteArray := prog_25_method_1_code
def yJxc12de_init_da8c8 : MethodName := ⟨RJxc12de, "<init>", "()V"⟩
def RJx4a65c : String := "java/util/ArrayList"
def TJx4a65c : u_T := fun k => match k with
  | 0 => ("java/util/AbstractList", "modCount", "I", false)
  | 1 => ("java/util/ArrayList", "elementData", "[Ljava/lang/Object;", false)
  | _ => ("java/util/ArrayList", "size", "I", false)
def tyJx4a65c : Nat → FieldType := fun k => match k with
  | 0 => .int
  | 1 => .array (.object "java/lang/Object")
  | _ => .int
abbrev wsJx4a65c0 : List Cond := u_ws RJx4a65c TJx4a65c 3
theorem nmJx4a65c : ∀ a, a < 3 → ∀ b, b < 3 → a ≠ b → (TJx4a65c a).2.1 ≠ (TJx4a65c b).2.1 := by decide +kernel
theorem tyJx4a65c_ok : ∀ k, k < 3 → parseFieldDescriptor (TJx4a65c k).2.2.1 = some (tyJx4a65c k) := by decide +kernel
abbrev cJx4a65c_init_da8c8 : ByteArray := prog_26_method_2_code
def yJx4a65c_init_da8c8 : MethodName := ⟨RJx4a65c, "<init>", "()V"⟩
abbrev cJx4a65c_grow_92f84 : ByteArray := prog_26_method_6_code
def yJx4a65c_grow_92f84 : MethodName := ⟨RJx4a65c, "grow", "(I)[Ljava/lang/Object;"⟩
abbrev cJx4a65c_grow_d5877 : ByteArray := prog_26_method_7_code
def yJx4a65c_grow_d5877 : MethodName := ⟨RJx4a65c, "grow", "()[Ljava/lang/Object;"⟩
abbrev cJx4a65c_size_8abf5 : ByteArray := prog_26_method_8_code
def yJx4a65c_size_8abf5 : MethodName := ⟨RJx4a65c, "size", "()I"⟩
abbrev cJx4a65c_elementData_915e3 : ByteArray := prog_26_method_18_code
def yJx4a65c_elementData_915e3 : MethodName := ⟨RJx4a65c, "elementData", "(I)Ljava/lang/Object;"⟩
abbrev cJx4a65c_get_915e3 : ByteArray := prog_26_method_20_code
def yJx4a65c_get_915e3 : MethodName := ⟨RJx4a65c, "get", "(I)Ljava/lang/Object;"⟩
abbrev cJx4a65c_add_72be8 : ByteArray := prog_26_method_24_code
def yJx4a65c_add_72be8 : MethodName := ⟨RJx4a65c, "add", "(Ljava/lang/Object;[Ljava/lang/Object;I)V"⟩
abbrev cJx4a65c_add_9ea2d : ByteArray := prog_26_method_25_code
def yJx4a65c_add_9ea2d : MethodName := ⟨RJx4a65c, "add", "(Ljava/lang/Object;)Z"⟩
abbrev cJx4a65c_clear_da8c8 : ByteArray := prog_26_method_40_code
def yJx4a65c_clear_da8c8 : MethodName := ⟨RJx4a65c, "clear", "()V"⟩
def RJ7 : String := "java/util/Arrays"
def TJ7 : u_T := fun k => match k with
  | _ => ("", "", "", false)
def tyJ7 : Nat → FieldType := fun k => match k with
  | _ => .int
abbrev wsJ70 : List Cond := u_ws RJ7 TJ7 0
theorem nmJ7 : ∀ a, a < 0 → ∀ b, b < 0 → a ≠ b → (TJ7 a).2.1 ≠ (TJ7 b).2.1 := by decide +kernel
theorem tyJ7_ok : ∀ k, k < 0 → parseFieldDescriptor (TJ7 k).2.2.1 = some (tyJ7 k) := by decide +kernel
abbrev cJ7_copyOf_1904c : ByteArray := prog_27_method_119_code
def yJ7_copyOf_1904c : MethodName := ⟨RJ7, "copyOf", "([Ljava/lang/Object;I)[Ljava/lang/Object;"⟩
abbrev cJ7_copyOf_6403c : ByteArray := prog_27_method_120_code
def yJ7_copyOf_6403c : MethodName := ⟨RJ7, "copyOf", "([Ljava/lang/Object;ILjava/lang/Class;)[Ljava/lang/Object;"⟩
def RJx5ef63 : String := "java/util/Collection"
def TJx5ef63 : u_T := fun k => match k with
  | _ => ("", "", "", false)
def tyJx5ef63 : Nat → FieldType := fun k => match k with
  | _ => .int
abbrev wsJx5ef630 : List Cond := u_ws RJx5ef63 TJx5ef63 0
theorem nmJx5ef63 : ∀ a, a < 0 → ∀ b, b < 0 → a ≠ b → (TJx5ef63 a).2.1 ≠ (TJx5ef63 b).2.1 := by decide +kernel
theorem tyJx5ef63_ok : ∀ k, k < 0 → parseFieldDescriptor (TJx5ef63 k).2.2.1 = some (tyJx5ef63 k) := by decide +kernel
def RJxbd725 : String := "java/util/List"
def TJxbd725 : u_T := fun k => match k with
  | _ => ("", "", "", false)
def tyJxbd725 : Nat → FieldType := fun k => match k with
  | _ => .int
abbrev wsJxbd7250 : List Cond := u_ws RJxbd725 TJxbd725 0
theorem nmJxbd725 : ∀ a, a < 0 → ∀ b, b < 0 → a ≠ b → (TJxbd725 a).2.1 ≠ (TJxbd725 b).2.1 := by decide +kernel
theorem tyJxbd725_ok : ∀ k, k < 0 → parseFieldDescriptor (TJxbd725 k).2.2.1 = some (tyJxbd725 k) := by decide +kernel
def RJ15 : String := "java/util/Objects"
def TJ15 : u_T := fun k => match k with
  | _ => ("", "", "", false)
def tyJ15 : Nat → FieldType := fun k => match k with
  | _ => .int
abbrev wsJ150 : List Cond := u_ws RJ15 TJ15 0
theorem nmJ15 : ∀ a, a < 0 → ∀ b, b < 0 → a ≠ b → (TJ15 a).2.1 ≠ (TJ15 b).2.1 := by decide +kernel
theorem tyJ15_ok : ∀ k, k < 0 → parseFieldDescriptor (TJ15 k).2.2.1 = some (tyJ15 k) := by decide +kernel
abbrev cJ15_checkIndex_7cf53 : ByteArray := prog_30_method_17_code
def yJ15_checkIndex_7cf53 : MethodName := ⟨RJ15, "checkIndex", "(II)I"⟩
def RJxf0a74 : String := "java/util/RandomAccess"
def TJxf0a74 : u_T := fun k => match k with
  | _ => ("", "", "", false)
def tyJxf0a74 : Nat → FieldType := fun k => match k with
  | _ => .int
abbrev wsJxf0a740 : List Cond := u_ws RJxf0a74 TJxf0a74 0
theorem nmJxf0a74 : ∀ a, a < 0 → ∀ b, b < 0 → a ≠ b → (TJxf0a74 a).2.1 ≠ (TJxf0a74 b).2.1 := by decide +kernel
theorem tyJxf0a74_ok : ∀ k, k < 0 → parseFieldDescriptor (TJxf0a74 k).2.2.1 = some (tyJxf0a74 k) := by decide +kernel
def RJxa66e6 : String := "java/util/SequencedCollection"
def TJxa66e6 : u_T := fun k => match k with
  | _ => ("", "", "", false)
def tyJxa66e6 : Nat → FieldType := fun k => match k with
  | _ => .int
abbrev wsJxa66e60 : List Cond := u_ws RJxa66e6 TJxa66e6 0
theorem nmJxa66e6 : ∀ a, a < 0 → ∀ b, b < 0 → a ≠ b → (TJxa66e6 a).2.1 ≠ (TJxa66e6 b).2.1 := by decide +kernel
theorem tyJxa66e6_ok : ∀ k, k < 0 → parseFieldDescriptor (TJxa66e6 k).2.2.1 = some (tyJxa66e6 k) := by decide +kernel
def RJ8 : String := "jdk/internal/util/ArraysSupport"
def TJ8 : u_T := fun k => match k with
  | _ => ("", "", "", false)
def tyJ8 : Nat → FieldType := fun k => match k with
  | _ => .int
abbrev wsJ80 : List Cond := u_ws RJ8 TJ8 0
theorem nmJ8 : ∀ a, a < 0 → ∀ b, b < 0 → a ≠ b → (TJ8 a).2.1 ≠ (TJ8 b).2.1 := by decide +kernel
theorem tyJ8_ok : ∀ k, k < 0 → parseFieldDescriptor (TJ8 k).2.2.1 = some (tyJ8 k) := by decide +kernel
abbrev cJ8_newLength_cabcc : ByteArray := prog_33_method_27_code
def yJ8_newLength_cabcc : MethodName := ⟨RJ8, "newLength", "(III)I"⟩
abbrev cJ8_hugeLength_7cf53 : ByteArray := prog_33_method_28_code
def yJ8_hugeLength_7cf53 : MethodName := ⟨RJ8, "hugeLength", "(II)I"⟩
def RJ3 : String := "jdk/internal/util/Preconditions"
def TJ3 : u_T := fun k => match k with
  | _ => ("", "", "", false)
def tyJ3 : Nat → FieldType := fun k => match k with
  | _ => .int
abbrev wsJ30 : List Cond := u_ws RJ3 TJ3 0
theorem nmJ3 : ∀ a, a < 0 → ∀ b, b < 0 → a ≠ b → (TJ3 a).2.1 ≠ (TJ3 b).2.1 := by decide +kernel
theorem tyJ3_ok : ∀ k, k < 0 → parseFieldDescriptor (TJ3 k).2.2.1 = some (tyJ3 k) := by decide +kernel
abbrev cJ3_checkIndex_8e157 : ByteArray := prog_34_method_11_code
def yJ3_checkIndex_8e157 : MethodName := ⟨RJ3, "checkIndex", "(IILjava/util/function/BiFunction;)I"⟩
def RL : String := "RollSyncLaw"
abbrev cL_cell : ByteArray := method_2_code
def yL_cell : MethodName := ⟨RL, "cell", "([II)I"⟩
abbrev cL_some : ByteArray := method_3_code
def yL_some : MethodName := ⟨RL, "some", "(II)I"⟩
abbrev cL_compare : ByteArray := method_4_code
def yL_compare : MethodName := ⟨RL, "compare", "([I[II[III[I[I[I[I[II)V"⟩
abbrev cL_weak : ByteArray := method_5_code
def yL_weak : MethodName := ⟨RL, "weak", "([IIII)I"⟩
abbrev cL_strong : ByteArray := method_6_code
def yL_strong : MethodName := ⟨RL, "strong", "([III)J"⟩
abbrev cL_apply : ByteArray := method_7_code
def yL_apply : MethodName := ⟨RL, "apply", "([III[I[I[I[I[II[I)I"⟩
abbrev cL_cost : ByteArray := method_8_code
def yL_cost : MethodName := ⟨RL, "cost", "([I[I[II)I"⟩
abbrev cL_give : ByteArray := method_9_code
def yL_give : MethodName := ⟨RL, "give", "([I[II[III)V"⟩
abbrev cL_edits : ByteArray := method_10_code
def yL_edits : MethodName := ⟨RL, "edits", "(LRollSync;IIIII)I"⟩
abbrev cL_copied : ByteArray := method_11_code
def yL_copied : MethodName := ⟨RL, "copied", "(LRollSync;II)I"⟩
abbrev cL_tells : ByteArray := method_12_code
def yL_tells : MethodName := ⟨RL, "tells", "(LRollSync;III)I"⟩
abbrev cL_strongOf : ByteArray := method_13_code
def yL_strongOf : MethodName := ⟨RL, "strongOf", "(LRollSync;II)J"⟩
abbrev cL_copies : ByteArray := method_14_code
def yL_copies : MethodName := ⟨RL, "copies", "(LRollSync;II)I"⟩
abbrev cL_signs : ByteArray := method_15_code
def yL_signs : MethodName := ⟨RL, "signs", "(LRollSync;IIII)I"⟩
abbrev cL_works : ByteArray := method_16_code
def yL_works : MethodName := ⟨RL, "works", "(LRollSync;IIII)I"⟩
abbrev cL_keeps : ByteArray := method_17_code
def yL_keeps : MethodName := ⟨RL, "keeps", "(LRollSync;III)I"⟩
abbrev cL_replaced : ByteArray := method_18_code
def yL_replaced : MethodName := ⟨RL, "replaced", "(LRollSync;II)I"⟩
abbrev cL_cut : ByteArray := method_19_code
def yL_cut : MethodName := ⟨RL, "cut", "(LRollSync;III)I"⟩
abbrev cL_papers : ByteArray := method_20_code
def yL_papers : MethodName := ⟨RL, "papers", "(LRollSync;III)I"⟩
abbrev cL_value : ByteArray := method_21_code
def yL_value : MethodName := ⟨RL, "value", "(I)I"⟩
abbrev cL_files : ByteArray := method_22_code
def yL_files : MethodName := ⟨RL, "files", "(LRollSync;II[I[I)Z"⟩
abbrev cL_sends : ByteArray := method_23_code
def yL_sends : MethodName := ⟨RL, "sends", "(LRollSync;II[I[I[I[I[I[I[I[I[I)Z"⟩
abbrev cL_rebuild : ByteArray := method_24_code
def yL_rebuild : MethodName := ⟨RL, "rebuild", "(I[I[I[I[I[I[I[I[I[I)I"⟩
abbrev cL_held : ByteArray := method_25_code
def yL_held : MethodName := ⟨RL, "held", "(I[I[I[I[I)I"⟩
abbrev cL_versions : ByteArray := method_26_code
def yL_versions : MethodName := ⟨RL, "versions", "(LRollSync;II[I[I[I[I[I[I[I[I[I[I)Z"⟩
abbrev cL_named : ByteArray := method_27_code
def yL_named : MethodName := ⟨RL, "named", "([I[I[IIIIII)I"⟩
abbrev cL_stores : ByteArray := method_28_code
def yL_stores : MethodName := ⟨RL, "stores", "(LRollSync;II[I[I[I[I[I[I)Z"⟩
abbrev cL_asks : ByteArray := method_29_code
def yL_asks : MethodName := ⟨RL, "asks", "(LRollSync;I[I[I[I[I[I[I[I[I)Z"⟩
abbrev cL_keepsTold : ByteArray := method_30_code
def yL_keepsTold : MethodName := ⟨RL, "keepsTold", "(LRollSync;I[I[I[I[I[I[I[I[I[I[I[I)Z"⟩
abbrev cL_law : ByteArray := code
def yL_law : MethodName := ⟨RL, "law", "([I)Z"⟩
abbrev vwCl : List vw_C := [(RJx4a65c, TJx4a65c, 3), (RX0, TX0, 9), (RX1, TX1, 3), (RX2, TX2, 8), (RX3, TX3, 2), (RX4, TX4, 2), (RX5, TX5, 5), (RX6, TX6, 7), (RX7, TX7, 4), (RX8, TX8, 7)]
