/-! ===== BEGIN printed: names, fields, word lists, decode rows ===== -/
def RX0 : String := "MemoryMap$Block"
def TX0 : u_T := fun k => match k with
  | 0 => ("MemoryMap$Block", "length", "I", true)
  | 1 => ("MemoryMap$Block", "first", "LMemoryMap$Copy;", true)
  | _ => ("MemoryMap$Block", "second", "LMemoryMap$Copy;", true)
def tyX0 : Nat → FieldType := fun k => match k with
  | 0 => .int
  | 1 => .object "MemoryMap$Copy"
  | _ => .object "MemoryMap$Copy"
abbrev wsX00 : List Cond := u_ws RX0 TX0 3
theorem nmX0 : ∀ a, a < 3 → ∀ b, b < 3 → a ≠ b → (TX0 a).2.1 ≠ (TX0 b).2.1 := by decide +kernel
theorem tyX0_ok : ∀ k, k < 3 → parseFieldDescriptor (TX0 k).2.2.1 = some (tyX0 k) := by decide +kernel
abbrev cX0_init : ByteArray := prog_2_method_1_code
def yX0_init : MethodName := ⟨RX0, "<init>", "(I)V"⟩
abbrev cX0_hasOctet : ByteArray := prog_2_method_2_code
def yX0_hasOctet : MethodName := ⟨RX0, "hasOctet", "(I)Z"⟩
abbrev cX0_repair : ByteArray := prog_2_method_3_code
def yX0_repair : MethodName := ⟨RX0, "repair", "()I"⟩
def RX1 : String := "MemoryMap$Copy"
def TX1 : u_T := fun k => match k with
  | 0 => ("MemoryMap$Copy", "octets", "[B", true)
  | _ => ("MemoryMap$Copy", "sum", "I", false)
def tyX1 : Nat → FieldType := fun k => match k with
  | 0 => .array .byte
  | _ => .int
abbrev wsX10 : List Cond := u_ws RX1 TX1 2
theorem nmX1 : ∀ a, a < 2 → ∀ b, b < 2 → a ≠ b → (TX1 a).2.1 ≠ (TX1 b).2.1 := by decide +kernel
theorem tyX1_ok : ∀ k, k < 2 → parseFieldDescriptor (TX1 k).2.2.1 = some (tyX1 k) := by decide +kernel
abbrev cX1_init : ByteArray := prog_3_method_1_code
def yX1_init : MethodName := ⟨RX1, "<init>", "(I)V"⟩
abbrev cX1_isGood : ByteArray := prog_3_method_2_code
def yX1_isGood : MethodName := ⟨RX1, "isGood", "()Z"⟩
abbrev cX1_setOctet : ByteArray := prog_3_method_3_code
def yX1_setOctet : MethodName := ⟨RX1, "setOctet", "(IB)V"⟩
abbrev cX1_flip : ByteArray := prog_3_method_4_code
def yX1_flip : MethodName := ⟨RX1, "flip", "(II)I"⟩
abbrev cX1_become : ByteArray := prog_3_method_5_code
def yX1_become : MethodName := ⟨RX1, "become", "(LMemoryMap$Copy;)V"⟩
abbrev cX1_clear : ByteArray := prog_3_method_6_code
def yX1_clear : MethodName := ⟨RX1, "clear", "()V"⟩
abbrev cX1_sumOf : ByteArray := prog_3_method_7_code
def yX1_sumOf : MethodName := ⟨RX1, "sumOf", "([B)I"⟩
def RX2 : String := "MemoryMap$Functions"
def TX2 : u_T := fun k => match k with
  | 0 => ("MemoryMap$Functions", "stacks", "[I", true)
  | 1 => ("MemoryMap$Functions", "called", "[I", true)
  | _ => ("MemoryMap$Functions", "depths", "[I", true)
def tyX2 : Nat → FieldType := fun k => match k with
  | 0 => .array .int
  | 1 => .array .int
  | _ => .array .int
abbrev wsX20 : List Cond := u_ws RX2 TX2 3
theorem nmX2 : ∀ a, a < 3 → ∀ b, b < 3 → a ≠ b → (TX2 a).2.1 ≠ (TX2 b).2.1 := by decide +kernel
theorem tyX2_ok : ∀ k, k < 3 → parseFieldDescriptor (TX2 k).2.2.1 = some (tyX2 k) := by decide +kernel
abbrev cX2_init : ByteArray := prog_4_method_1_code
def yX2_init : MethodName := ⟨RX2, "<init>", "()V"⟩
abbrev cX2_addCall : ByteArray := prog_4_method_2_code
def yX2_addCall : MethodName := ⟨RX2, "addCall", "(II)V"⟩
abbrev cX2_countCalls : ByteArray := prog_4_method_3_code
def yX2_countCalls : MethodName := ⟨RX2, "countCalls", "(I)I"⟩
abbrev cX2_depthFrom : ByteArray := prog_4_method_4_code
def yX2_depthFrom : MethodName := ⟨RX2, "depthFrom", "(I)I"⟩
abbrev cX2_settleMore : ByteArray := prog_4_method_5_code
def yX2_settleMore : MethodName := ⟨RX2, "settleMore", "(I)I"⟩
abbrev cX2_deepestCalled : ByteArray := prog_4_method_6_code
def yX2_deepestCalled : MethodName := ⟨RX2, "deepestCalled", "(I)I"⟩
abbrev cX2_contains : ByteArray := prog_4_method_7_code
def yX2_contains : MethodName := ⟨RX2, "contains", "(II)Z"⟩
def RX3 : String := "MemoryMap$Placements"
def TX3 : u_T := fun k => match k with
  | 0 => ("MemoryMap$Placements", "last", "[I", true)
  | 1 => ("MemoryMap$Placements", "lastCount", "I", false)
  | 2 => ("MemoryMap$Placements", "kept", "[[I", true)
  | 3 => ("MemoryMap$Placements", "sectionCounts", "[I", true)
  | _ => ("MemoryMap$Placements", "keptCount", "I", false)
def tyX3 : Nat → FieldType := fun k => match k with
  | 0 => .array .int
  | 1 => .int
  | 2 => .array (.array .int)
  | 3 => .array .int
  | _ => .int
abbrev wsX30 : List Cond := u_ws RX3 TX3 5
theorem nmX3 : ∀ a, a < 5 → ∀ b, b < 5 → a ≠ b → (TX3 a).2.1 ≠ (TX3 b).2.1 := by decide +kernel
theorem tyX3_ok : ∀ k, k < 5 → parseFieldDescriptor (TX3 k).2.2.1 = some (tyX3 k) := by decide +kernel
abbrev cX3_init : ByteArray := prog_5_method_1_code
def yX3_init : MethodName := ⟨RX3, "<init>", "()V"⟩
abbrev cX3_add : ByteArray := prog_5_method_2_code
def yX3_add : MethodName := ⟨RX3, "add", "([II)V"⟩
abbrev cX3_countMovedSince : ByteArray := prog_5_method_3_code
def yX3_countMovedSince : MethodName := ⟨RX3, "countMovedSince", "(I)I"⟩
def RX4 : String := "MemoryMap$Regions"
def TX4 : u_T := fun k => match k with
  | 0 => ("MemoryMap$Regions", "starts", "[I", true)
  | 1 => ("MemoryMap$Regions", "ends", "[I", true)
  | 2 => ("MemoryMap$Regions", "rights", "[I", true)
  | _ => ("MemoryMap$Regions", "count", "I", false)
def tyX4 : Nat → FieldType := fun k => match k with
  | 0 => .array .int
  | 1 => .array .int
  | 2 => .array .int
  | _ => .int
abbrev wsX40 : List Cond := u_ws RX4 TX4 4
theorem nmX4 : ∀ a, a < 4 → ∀ b, b < 4 → a ≠ b → (TX4 a).2.1 ≠ (TX4 b).2.1 := by decide +kernel
theorem tyX4_ok : ∀ k, k < 4 → parseFieldDescriptor (TX4 k).2.2.1 = some (tyX4 k) := by decide +kernel
abbrev cX4_init : ByteArray := prog_6_method_1_code
def yX4_init : MethodName := ⟨RX4, "<init>", "()V"⟩
abbrev cX4_overlap : ByteArray := prog_6_method_2_code
def yX4_overlap : MethodName := ⟨RX4, "overlap", "(II)Z"⟩
abbrev cX4_allow : ByteArray := prog_6_method_3_code
def yX4_allow : MethodName := ⟨RX4, "allow", "(II)Z"⟩
abbrev cX4_add : ByteArray := prog_6_method_4_code
def yX4_add : MethodName := ⟨RX4, "add", "(III)I"⟩
def RX5 : String := "MemoryMap$Sections"
def TX5 : u_T := fun k => match k with
  | 0 => ("MemoryMap$Sections", "lengths", "[I", true)
  | 1 => ("MemoryMap$Sections", "aligns", "[I", true)
  | 2 => ("MemoryMap$Sections", "kinds", "[I", true)
  | 3 => ("MemoryMap$Sections", "greatestFirst", "[I", true)
  | _ => ("MemoryMap$Sections", "count", "I", false)
def tyX5 : Nat → FieldType := fun k => match k with
  | 0 => .array .int
  | 1 => .array .int
  | 2 => .array .int
  | 3 => .array .int
  | _ => .int
abbrev wsX50 : List Cond := u_ws RX5 TX5 5
theorem nmX5 : ∀ a, a < 5 → ∀ b, b < 5 → a ≠ b → (TX5 a).2.1 ≠ (TX5 b).2.1 := by decide +kernel
theorem tyX5_ok : ∀ k, k < 5 → parseFieldDescriptor (TX5 k).2.2.1 = some (tyX5 k) := by decide +kernel
abbrev cX5_init : ByteArray := prog_7_method_1_code
def yX5_init : MethodName := ⟨RX5, "<init>", "()V"⟩
abbrev cX5_add : ByteArray := prog_7_method_2_code
def yX5_add : MethodName := ⟨RX5, "add", "(III)I"⟩
abbrev cX5_enterInOrder : ByteArray := prog_7_method_3_code
def yX5_enterInOrder : MethodName := ⟨RX5, "enterInOrder", "(I)V"⟩
def RX6 : String := "MemoryMap$Taken"
def TX6 : u_T := fun k => match k with
  | 0 => ("MemoryMap$Taken", "starts", "[I", true)
  | 1 => ("MemoryMap$Taken", "ends", "[I", true)
  | _ => ("MemoryMap$Taken", "count", "I", false)
def tyX6 : Nat → FieldType := fun k => match k with
  | 0 => .array .int
  | 1 => .array .int
  | _ => .int
abbrev wsX60 : List Cond := u_ws RX6 TX6 3
theorem nmX6 : ∀ a, a < 3 → ∀ b, b < 3 → a ≠ b → (TX6 a).2.1 ≠ (TX6 b).2.1 := by decide +kernel
theorem tyX6_ok : ∀ k, k < 3 → parseFieldDescriptor (TX6 k).2.2.1 = some (tyX6 k) := by decide +kernel
abbrev cX6_init : ByteArray := prog_8_method_1_code
def yX6_init : MethodName := ⟨RX6, "<init>", "()V"⟩
abbrev cX6_clear : ByteArray := prog_8_method_2_code
def yX6_clear : MethodName := ⟨RX6, "clear", "()V"⟩
abbrev cX6_leastFree : ByteArray := prog_8_method_3_code
def yX6_leastFree : MethodName := ⟨RX6, "leastFree", "(III)I"⟩
abbrev cX6_add : ByteArray := prog_8_method_4_code
def yX6_add : MethodName := ⟨RX6, "add", "(II)V"⟩
abbrev cX6_alignedUp : ByteArray := prog_8_method_5_code
def yX6_alignedUp : MethodName := ⟨RX6, "alignedUp", "(II)I"⟩
def RX7 : String := "MemoryMap"
def TX7 : u_T := fun k => match k with
  | 0 => ("MemoryMap", "size", "I", true)
  | 1 => ("MemoryMap", "regions", "LMemoryMap$Regions;", true)
  | 2 => ("MemoryMap", "sections", "LMemoryMap$Sections;", true)
  | 3 => ("MemoryMap", "taken", "LMemoryMap$Taken;", true)
  | 4 => ("MemoryMap", "trial", "[I", true)
  | 5 => ("MemoryMap", "placements", "LMemoryMap$Placements;", true)
  | 6 => ("MemoryMap", "functions", "LMemoryMap$Functions;", true)
  | 7 => ("MemoryMap", "blocks", "[LMemoryMap$Block;", true)
  | _ => ("MemoryMap", "blockCount", "I", false)
def tyX7 : Nat → FieldType := fun k => match k with
  | 0 => .int
  | 1 => .object "MemoryMap$Regions"
  | 2 => .object "MemoryMap$Sections"
  | 3 => .object "MemoryMap$Taken"
  | 4 => .array .int
  | 5 => .object "MemoryMap$Placements"
  | 6 => .object "MemoryMap$Functions"
  | 7 => .array (.object "MemoryMap$Block")
  | _ => .int
abbrev wsX70 : List Cond := u_ws RX7 TX7 9
theorem nmX7 : ∀ a, a < 9 → ∀ b, b < 9 → a ≠ b → (TX7 a).2.1 ≠ (TX7 b).2.1 := by decide +kernel
theorem tyX7_ok : ∀ k, k < 9 → parseFieldDescriptor (TX7 k).2.2.1 = some (tyX7 k) := by decide +kernel
abbrev cX7_init : ByteArray := prog_1_method_1_code
def yX7_init : MethodName := ⟨RX7, "<init>", "(J)V"⟩
abbrev cX7_region : ByteArray := prog_1_method_2_code
def yX7_region : MethodName := ⟨RX7, "region", "(JJI)I"⟩
abbrev cX7_section : ByteArray := prog_1_method_3_code
def yX7_section : MethodName := ⟨RX7, "section", "(JJI)I"⟩
abbrev cX7_place : ByteArray := prog_1_method_4_code
def yX7_place : MethodName := ⟨RX7, "place", "()I"⟩
abbrev cX7_at : ByteArray := prog_1_method_5_code
def yX7_at : MethodName := ⟨RX7, "at", "(I)J"⟩
abbrev cX7_call : ByteArray := prog_1_method_6_code
def yX7_call : MethodName := ⟨RX7, "call", "(IIJ)I"⟩
abbrev cX7_depth : ByteArray := prog_1_method_7_code
def yX7_depth : MethodName := ⟨RX7, "depth", "(I)J"⟩
abbrev cX7_block : ByteArray := prog_1_method_8_code
def yX7_block : MethodName := ⟨RX7, "block", "(J)I"⟩
abbrev cX7_write : ByteArray := prog_1_method_9_code
def yX7_write : MethodName := ⟨RX7, "write", "(IIB)I"⟩
abbrev cX7_poke : ByteArray := prog_1_method_10_code
def yX7_poke : MethodName := ⟨RX7, "poke", "(IIII)I"⟩
abbrev cX7_read : ByteArray := prog_1_method_11_code
def yX7_read : MethodName := ⟨RX7, "read", "(I)I"⟩
abbrev cX7_cell : ByteArray := prog_1_method_12_code
def yX7_cell : MethodName := ⟨RX7, "cell", "(J)B"⟩
abbrev cX7_moved : ByteArray := prog_1_method_13_code
def yX7_moved : MethodName := ⟨RX7, "moved", "(I)I"⟩
abbrev cX7_takeSpaceFor : ByteArray := prog_1_method_14_code
def yX7_takeSpaceFor : MethodName := ⟨RX7, "takeSpaceFor", "(I)I"⟩
abbrev cX7_blockNumbered : ByteArray := prog_1_method_15_code
def yX7_blockNumbered : MethodName := ⟨RX7, "blockNumbered", "(I)LMemoryMap$Block;"⟩
abbrev cX7_isWithin : ByteArray := prog_1_method_16_code
def yX7_isWithin : MethodName := ⟨RX7, "isWithin", "(JJJ)Z"⟩
def RX8 : String := "MemoryMapModel"
def TX8 : u_T := fun k => match k with
  | 0 => ("MemoryMapModel", "thrown", "I", false)
  | 1 => ("MemoryMapModel", "size", "I", false)
  | 2 => ("MemoryMapModel", "froms", "[I", true)
  | 3 => ("MemoryMapModel", "ends", "[I", true)
  | 4 => ("MemoryMapModel", "rights", "[I", true)
  | 5 => ("MemoryMapModel", "regions", "I", false)
  | 6 => ("MemoryMapModel", "lengths", "[I", true)
  | 7 => ("MemoryMapModel", "aligns", "[I", true)
  | 8 => ("MemoryMapModel", "kinds", "[I", true)
  | 9 => ("MemoryMapModel", "sections", "I", false)
  | 10 => ("MemoryMapModel", "taken", "[B", true)
  | 11 => ("MemoryMapModel", "cells", "[B", true)
  | 12 => ("MemoryMapModel", "places", "[I", true)
  | 13 => ("MemoryMapModel", "trial", "[I", true)
  | 14 => ("MemoryMapModel", "placed", "I", false)
  | 15 => ("MemoryMapModel", "placements", "I", false)
  | 16 => ("MemoryMapModel", "kept", "[I", true)
  | 17 => ("MemoryMapModel", "keptMany", "[I", true)
  | 18 => ("MemoryMapModel", "stacks", "[J", true)
  | 19 => ("MemoryMapModel", "calls", "[Z", true)
  | 20 => ("MemoryMapModel", "depths", "[J", true)
  | 21 => ("MemoryMapModel", "octets", "[I", true)
  | 22 => ("MemoryMapModel", "copies", "[B", true)
  | 23 => ("MemoryMapModel", "sums", "[I", true)
  | _ => ("MemoryMapModel", "blocks", "I", false)
def tyX8 : Nat → FieldType := fun k => match k with
  | 0 => .int
  | 1 => .int
  | 2 => .array .int
  | 3 => .array .int
  | 4 => .array .int
  | 5 => .int
  | 6 => .array .int
  | 7 => .array .int
  | 8 => .array .int
  | 9 => .int
  | 10 => .array .byte
  | 11 => .array .byte
  | 12 => .array .int
  | 13 => .array .int
  | 14 => .int
  | 15 => .int
  | 16 => .array .int
  | 17 => .array .int
  | 18 => .array .long
  | 19 => .array .boolean
  | 20 => .array .long
  | 21 => .array .int
  | 22 => .array .byte
  | 23 => .array .int
  | _ => .int
abbrev wsX80 : List Cond := u_ws RX8 TX8 25
theorem nmX8 : ∀ a, a < 25 → ∀ b, b < 25 → a ≠ b → (TX8 a).2.1 ≠ (TX8 b).2.1 := by decide +kernel
theorem tyX8_ok : ∀ k, k < 25 → parseFieldDescriptor (TX8 k).2.2.1 = some (tyX8 k) := by decide +kernel
abbrev cX8_init : ByteArray := prog_10_method_1_code
def yX8_init : MethodName := ⟨RX8, "<init>", "(J)V"⟩
abbrev cX8_thrown : ByteArray := prog_10_method_2_code
def yX8_thrown : MethodName := ⟨RX8, "thrown", "()I"⟩
abbrev cX8_region : ByteArray := prog_10_method_3_code
def yX8_region : MethodName := ⟨RX8, "region", "(JJI)I"⟩
abbrev cX8_section : ByteArray := prog_10_method_4_code
def yX8_section : MethodName := ⟨RX8, "section", "(JJI)I"⟩
abbrev cX8_isBefore : ByteArray := prog_10_method_5_code
def yX8_isBefore : MethodName := ⟨RX8, "isBefore", "(II)Z"⟩
abbrev cX8_next : ByteArray := prog_10_method_6_code
def yX8_next : MethodName := ⟨RX8, "next", "(I)I"⟩
abbrev cX8_up : ByteArray := prog_10_method_7_code
def yX8_up : MethodName := ⟨RX8, "up", "(II)I"⟩
abbrev cX8_find : ByteArray := prog_10_method_8_code
def yX8_find : MethodName := ⟨RX8, "find", "(II)I"⟩
abbrev cX8_findAny : ByteArray := prog_10_method_9_code
def yX8_findAny : MethodName := ⟨RX8, "findAny", "(I)I"⟩
abbrev cX8_place : ByteArray := prog_10_method_10_code
def yX8_place : MethodName := ⟨RX8, "place", "()I"⟩
abbrev cX8_at : ByteArray := prog_10_method_11_code
def yX8_at : MethodName := ⟨RX8, "at", "(I)J"⟩
abbrev cX8_cell : ByteArray := prog_10_method_12_code
def yX8_cell : MethodName := ⟨RX8, "cell", "(J)B"⟩
abbrev cX8_moved : ByteArray := prog_10_method_13_code
def yX8_moved : MethodName := ⟨RX8, "moved", "(I)I"⟩
abbrev cX8_call : ByteArray := prog_10_method_14_code
def yX8_call : MethodName := ⟨RX8, "call", "(IIJ)I"⟩
abbrev cX8_reckon : ByteArray := prog_10_method_15_code
def yX8_reckon : MethodName := ⟨RX8, "reckon", "(I)J"⟩
abbrev cX8_depth : ByteArray := prog_10_method_16_code
def yX8_depth : MethodName := ⟨RX8, "depth", "(I)J"⟩
abbrev cX8_block : ByteArray := prog_10_method_17_code
def yX8_block : MethodName := ⟨RX8, "block", "(J)I"⟩
abbrev cX8_cell_ : ByteArray := prog_10_method_18_code
def yX8_cell_ : MethodName := ⟨RX8, "cell", "(III)I"⟩
abbrev cX8_sum : ByteArray := prog_10_method_19_code
def yX8_sum : MethodName := ⟨RX8, "sum", "(II)I"⟩
abbrev cX8_noBlock : ByteArray := prog_10_method_20_code
def yX8_noBlock : MethodName := ⟨RX8, "noBlock", "(I)Z"⟩
abbrev cX8_write : ByteArray := prog_10_method_21_code
def yX8_write : MethodName := ⟨RX8, "write", "(IIB)I"⟩
abbrev cX8_poke : ByteArray := prog_10_method_22_code
def yX8_poke : MethodName := ⟨RX8, "poke", "(IIII)I"⟩
abbrev cX8_read : ByteArray := prog_10_method_23_code
def yX8_read : MethodName := ⟨RX8, "read", "(I)I"⟩
def RJx00060 : String := "java/lang/ArrayIndexOutOfBoundsException"
def TJx00060 : u_T := fun k => match k with
  | 0 => ("java/lang/Throwable", "cause", "Ljava/lang/Throwable;", false)
  | 1 => ("java/lang/Throwable", "stackTrace", "[Ljava/lang/StackTraceElement;", false)
  | 2 => ("java/lang/Throwable", "suppressedExceptions", "Ljava/util/List;", false)
  | 3 => ("java/lang/Throwable", "detailMessage", "Ljava/lang/String;", false)
  | 4 => ("java/lang/Throwable", "backtrace", "Ljava/lang/Object;", false)
  | _ => ("java/lang/Throwable", "depth", "I", false)
def tyJx00060 : Nat → FieldType := fun k => match k with
  | 0 => .object "java/lang/Throwable"
  | 1 => .array (.object "java/lang/StackTraceElement")
  | 2 => .object "java/util/List"
  | 3 => .object "java/lang/String"
  | 4 => .object "java/lang/Object"
  | _ => .int
abbrev wsJx000600 : List Cond := u_ws RJx00060 TJx00060 6
theorem nmJx00060 : ∀ a, a < 6 → ∀ b, b < 6 → a ≠ b → (TJx00060 a).2.1 ≠ (TJx00060 b).2.1 := by decide +kernel
theorem tyJx00060_ok : ∀ k, k < 6 → parseFieldDescriptor (TJx00060 k).2.2.1 = some (tyJx00060 k) := by decide +kernel
abbrev cJx00060_init_a7421 : ByteArray := prog_12_method_2_code
def yJx00060_init_a7421 : MethodName := ⟨RJx00060, "<init>", "(Ljava/lang/String;)V"⟩
def RJ6 : String := "java/lang/Integer"
def TJ6 : u_T := fun k => match k with
  | _ => ("", "", "", false)
def tyJ6 : Nat → FieldType := fun k => match k with
  | _ => .int
abbrev wsJ60 : List Cond := u_ws RJ6 TJ6 0
theorem nmJ6 : ∀ a, a < 0 → ∀ b, b < 0 → a ≠ b → (TJ6 a).2.1 ≠ (TJ6 b).2.1 := by decide +kernel
theorem tyJ6_ok : ∀ k, k < 0 → parseFieldDescriptor (TJ6 k).2.2.1 = some (tyJ6 k) := by decide +kernel
abbrev cJ6_bitCount_0f7a4 : ByteArray := prog_15_method_49_code
def yJ6_bitCount_0f7a4 : MethodName := ⟨RJ6, "bitCount", "(I)I"⟩
def RJ9 : String := "java/lang/Math"
def TJ9 : u_T := fun k => match k with
  | _ => ("", "", "", false)
def tyJ9 : Nat → FieldType := fun k => match k with
  | _ => .int
abbrev wsJ90 : List Cond := u_ws RJ9 TJ9 0
theorem nmJ9 : ∀ a, a < 0 → ∀ b, b < 0 → a ≠ b → (TJ9 a).2.1 ≠ (TJ9 b).2.1 := by decide +kernel
theorem tyJ9_ok : ∀ k, k < 0 → parseFieldDescriptor (TJ9 k).2.2.1 = some (tyJ9 k) := by decide +kernel
abbrev cJ9_max_7cf53 : ByteArray := prog_16_method_65_code
def yJ9_max_7cf53 : MethodName := ⟨RJ9, "max", "(II)I"⟩
def RJ0 : String := "java/lang/String"
def TJ0 : u_T := fun k => match k with
  | _ => ("", "", "", false)
def tyJ0 : Nat → FieldType := fun k => match k with
  | _ => .int
abbrev wsJ00 : List Cond := u_ws RJ0 TJ0 0
theorem nmJ0 : ∀ a, a < 0 → ∀ b, b < 0 → a ≠ b → (TJ0 a).2.1 ≠ (TJ0 b).2.1 := by decide +kernel
theorem tyJ0_ok : ∀ k, k < 0 → parseFieldDescriptor (TJ0 k).2.2.1 = some (tyJ0 k) := by decide +kernel
def RJ10 : String := "java/lang/System"
def TJ10 : u_T := fun k => match k with
  | _ => ("", "", "", false)
def tyJ10 : Nat → FieldType := fun k => match k with
  | _ => .int
abbrev wsJ100 : List Cond := u_ws RJ10 TJ10 0
theorem nmJ10 : ∀ a, a < 0 → ∀ b, b < 0 → a ≠ b → (TJ10 a).2.1 ≠ (TJ10 b).2.1 := by decide +kernel
theorem tyJ10_ok : ∀ k, k < 0 → parseFieldDescriptor (TJ10 k).2.2.1 = some (tyJ10 k) := by decide +kernel
def RJ7 : String := "java/util/Arrays"
def TJ7 : u_T := fun k => match k with
  | _ => ("", "", "", false)
def tyJ7 : Nat → FieldType := fun k => match k with
  | _ => .int
abbrev wsJ70 : List Cond := u_ws RJ7 TJ7 0
theorem nmJ7 : ∀ a, a < 0 → ∀ b, b < 0 → a ≠ b → (TJ7 a).2.1 ≠ (TJ7 b).2.1 := by decide +kernel
theorem tyJ7_ok : ∀ k, k < 0 → parseFieldDescriptor (TJ7 k).2.2.1 = some (tyJ7 k) := by decide +kernel
abbrev cJ7_fill_031fb : ByteArray := prog_21_method_109_code
def yJ7_fill_031fb : MethodName := ⟨RJ7, "fill", "([BB)V"⟩
def RL : String := "MemoryMapLaw"
abbrev cL_cell : ByteArray := method_2_code
def yL_cell : MethodName := ⟨RL, "cell", "([II)I"⟩
abbrev cL_section : ByteArray := method_3_code
def yL_section : MethodName := ⟨RL, "section", "(LMemoryMap;JJI[J)I"⟩
abbrev cL_cell_ : ByteArray := method_4_code
def yL_cell_ : MethodName := ⟨RL, "cell", "(LMemoryMap;J[J)I"⟩
abbrev cL_law : ByteArray := code
def yL_law : MethodName := ⟨RL, "law", "([I)Z"⟩
def wsX1_sumOf : List Cond := .code yX1_sumOf cX1_sumOf 4 (some .int) :: ([.constant RX1 35 (-1028477379)])
def wsX1_init : List Cond := .code yX1_init cX1_init 2 none :: ([.methodLink RX1 3 objectInit, .instanceMethod objectInit, .code objectInit ⟨#[0xb1]⟩ 1 none, .arrayClass .byte, .fieldLink RX1 9 "MemoryMap$Copy" "octets" "[B", .fieldLink RX1 19 "MemoryMap$Copy" "sum" "I", .methodLink RX1 15 yX1_sumOf, .static yX1_sumOf, .initialized RX1, .code yX1_sumOf cX1_sumOf 4 (some .int), .constant RX1 35 (-1028477379)] ++ wsX10)
def wsX0_init : List Cond := .code yX0_init cX0_init 2 none :: ([.methodLink RX0 1 objectInit, .instanceMethod objectInit, .code objectInit ⟨#[0xb1]⟩ 1 none, .fieldLink RX0 7 "MemoryMap$Block" "length" "I", .classLink RX0 13 RX1, .instantiable RX1 2, .initialized RX1, .fieldLink RX0 18 "MemoryMap$Block" "first" "LMemoryMap$Copy;", .fieldLink RX0 22 "MemoryMap$Block" "second" "LMemoryMap$Copy;", .instanceMethod yX1_init, .code yX1_init cX1_init 2 none, .methodLink RX1 3 objectInit, .arrayClass .byte, .fieldLink RX1 9 "MemoryMap$Copy" "octets" "[B", .fieldLink RX1 19 "MemoryMap$Copy" "sum" "I", .methodLink RX1 15 yX1_sumOf, .static yX1_sumOf, .code yX1_sumOf cX1_sumOf 4 (some .int), .constant RX1 35 (-1028477379)] ++ wsX00 ++ wsX10)
def wsX7_isWithin : List Cond := .code yX7_isWithin cX7_isWithin 6 (some .boolean) :: ([])
def wsX0_hasOctet : List Cond := .code yX0_hasOctet cX0_hasOctet 2 (some .boolean) :: ([.fieldLink RX0 7 "MemoryMap$Block" "length" "I", .static yX7_isWithin, .initialized RX7, .code yX7_isWithin cX7_isWithin 6 (some .boolean)] ++ wsX00)
def wsX1_isGood : List Cond := .code yX1_isGood cX1_isGood 1 (some .boolean) :: ([.fieldLink RX1 19 "MemoryMap$Copy" "sum" "I", .fieldLink RX1 9 "MemoryMap$Copy" "octets" "[B", .methodLink RX1 15 yX1_sumOf, .static yX1_sumOf, .initialized RX1, .code yX1_sumOf cX1_sumOf 4 (some .int), .constant RX1 35 (-1028477379)] ++ wsX10)
def wsX1_become : List Cond := .code yX1_become cX1_become 2 none :: ([.fieldLink RX1 9 "MemoryMap$Copy" "octets" "[B", .methodLink RX1 23 arraycopyName, .native arraycopyName, .static arraycopyName, .initialized "java/lang/System", .fieldLink RX1 19 "MemoryMap$Copy" "sum" "I"] ++ wsX10)
def wsJ7_fill_031fb : List Cond := .code yJ7_fill_031fb cJ7_fill_031fb 4 none :: ([])
def wsX1_clear : List Cond := .code yX1_clear cX1_clear 1 none :: ([.fieldLink RX1 9 "MemoryMap$Copy" "octets" "[B", .fieldLink RX1 19 "MemoryMap$Copy" "sum" "I", .methodLink RX1 29 yJ7_fill_031fb, .static yJ7_fill_031fb, .initialized RJ7, .code yJ7_fill_031fb cJ7_fill_031fb 4 none, .methodLink RX1 15 yX1_sumOf, .static yX1_sumOf, .initialized RX1, .code yX1_sumOf cX1_sumOf 4 (some .int), .constant RX1 35 (-1028477379)] ++ wsX10)
def wsX0_repair_r1 : List Cond := [Cond.fieldLink RX0 18 "MemoryMap$Block" "first" "LMemoryMap$Copy;", Cond.fieldLink RX0 22 "MemoryMap$Block" "second" "LMemoryMap$Copy;", Cond.instanceMethod yX1_isGood, Cond.initialized RX1, Cond.selects RX1 yX1_isGood yX1_isGood, Cond.code yX1_isGood cX1_isGood 1 (some .boolean), Cond.fieldLink RX1 19 "MemoryMap$Copy" "sum" "I", Cond.fieldLink RX1 9 "MemoryMap$Copy" "octets" "[B", Cond.methodLink RX1 15 yX1_sumOf, Cond.static yX1_sumOf, Cond.code yX1_sumOf cX1_sumOf 4 (some .int), Cond.constant RX1 35 (-1028477379), Cond.instanceMethod yX1_become, Cond.selects RX1 yX1_become yX1_become, Cond.code yX1_become cX1_become 2 none, Cond.methodLink RX1 23 arraycopyName, Cond.native arraycopyName, Cond.static arraycopyName, Cond.initialized "java/lang/System", Cond.instanceMethod yX1_clear, Cond.selects RX1 yX1_clear yX1_clear, Cond.code yX1_clear cX1_clear 1 none, Cond.methodLink RX1 29 yJ7_fill_031fb, Cond.static yJ7_fill_031fb]
def wsX0_repair_r2 : List Cond := [Cond.initialized RJ7, Cond.code yJ7_fill_031fb cJ7_fill_031fb 4 none]
def wsX0_repair : List Cond := .code yX0_repair cX0_repair 1 (some .int) :: ((wsX0_repair_r1 ++ wsX0_repair_r2) ++ wsX00 ++ wsX10)
def wsX1_setOctet : List Cond := .code yX1_setOctet cX1_setOctet 3 none :: ([.fieldLink RX1 9 "MemoryMap$Copy" "octets" "[B", .fieldLink RX1 19 "MemoryMap$Copy" "sum" "I", .methodLink RX1 15 yX1_sumOf, .static yX1_sumOf, .initialized RX1, .code yX1_sumOf cX1_sumOf 4 (some .int), .constant RX1 35 (-1028477379)] ++ wsX10)
def wsX1_flip : List Cond := .code yX1_flip cX1_flip 3 (some .int) :: ([.fieldLink RX1 9 "MemoryMap$Copy" "octets" "[B"] ++ wsX10)
def wsX2_init : List Cond := .code yX2_init cX2_init 1 none :: ([.methodLink RX2 3 objectInit, .instanceMethod objectInit, .code objectInit ⟨#[0xb1]⟩ 1 none, .arrayClass .int, .fieldLink RX2 9 "MemoryMap$Functions" "stacks" "[I", .fieldLink RX2 15 "MemoryMap$Functions" "called" "[I", .fieldLink RX2 18 "MemoryMap$Functions" "depths" "[I"] ++ wsX20)
def wsX2_addCall : List Cond := .code yX2_addCall cX2_addCall 3 none :: ([.fieldLink RX2 15 "MemoryMap$Functions" "called" "[I"] ++ wsX20)
def wsJ6_bitCount_0f7a4 : List Cond := .code yJ6_bitCount_0f7a4 cJ6_bitCount_0f7a4 1 (some .int) :: ([.constant RJ6 265 (1431655765), .constant RJ6 266 (858993459), .constant RJ6 267 (252645135)])
def wsX2_countCalls : List Cond := .code yX2_countCalls cX2_countCalls 2 (some .int) :: ([.fieldLink RX2 15 "MemoryMap$Functions" "called" "[I", .methodLink RX2 21 yJ6_bitCount_0f7a4, .static yJ6_bitCount_0f7a4, .initialized RJ6, .code yJ6_bitCount_0f7a4 cJ6_bitCount_0f7a4 1 (some .int), .constant RJ6 265 (1431655765), .constant RJ6 266 (858993459), .constant RJ6 267 (252645135)] ++ wsX20)
def wsX2_contains : List Cond := .code yX2_contains cX2_contains 2 (some .boolean) :: ([])
def wsX2_deepestCalled : List Cond := .code yX2_deepestCalled cX2_deepestCalled 4 (some .int) :: ([.fieldLink RX2 15 "MemoryMap$Functions" "called" "[I", .fieldLink RX2 18 "MemoryMap$Functions" "depths" "[I", .methodLink RX2 37 Lib.Math.max.name, .static Lib.Math.max.name, .initialized "java/lang/Math", .code Lib.Math.max.name Lib.Math.max.code 2 (some .int), .methodLink RX2 27 yX2_contains, .static yX2_contains, .initialized RX2, .code yX2_contains cX2_contains 2 (some .boolean)] ++ wsX20)
def wsX2_settleMore : List Cond := .code yX2_settleMore cX2_settleMore 4 (some .int) :: ([.fieldLink RX2 15 "MemoryMap$Functions" "called" "[I", .fieldLink RX2 18 "MemoryMap$Functions" "depths" "[I", .fieldLink RX2 9 "MemoryMap$Functions" "stacks" "[I", .methodLink RX2 27 yX2_contains, .static yX2_contains, .initialized RX2, .code yX2_contains cX2_contains 2 (some .boolean), .methodLink RX2 34 yX2_deepestCalled, .instanceMethod yX2_deepestCalled, .selects RX2 yX2_deepestCalled yX2_deepestCalled, .code yX2_deepestCalled cX2_deepestCalled 4 (some .int), .methodLink RX2 37 Lib.Math.max.name, .static Lib.Math.max.name, .initialized "java/lang/Math", .code Lib.Math.max.name Lib.Math.max.code 2 (some .int)] ++ wsX20)
def wsX2_depthFrom : List Cond := .code yX2_depthFrom cX2_depthFrom 4 (some .int) :: ([.fieldLink RX2 18 "MemoryMap$Functions" "depths" "[I", .methodLink RX2 27 yX2_contains, .static yX2_contains, .initialized RX2, .code yX2_contains cX2_contains 2 (some .boolean), .methodLink RX2 31 yX2_settleMore, .instanceMethod yX2_settleMore, .selects RX2 yX2_settleMore yX2_settleMore, .code yX2_settleMore cX2_settleMore 4 (some .int), .fieldLink RX2 15 "MemoryMap$Functions" "called" "[I", .fieldLink RX2 9 "MemoryMap$Functions" "stacks" "[I", .methodLink RX2 34 yX2_deepestCalled, .instanceMethod yX2_deepestCalled, .selects RX2 yX2_deepestCalled yX2_deepestCalled, .code yX2_deepestCalled cX2_deepestCalled 4 (some .int), .methodLink RX2 37 Lib.Math.max.name, .static Lib.Math.max.name, .initialized "java/lang/Math", .code Lib.Math.max.name Lib.Math.max.code 2 (some .int)] ++ wsX20)
def wsX3_init : List Cond := .code yX3_init cX3_init 1 none :: ([.methodLink RX3 3 objectInit, .instanceMethod objectInit, .code objectInit ⟨#[0xb1]⟩ 1 none, .arrayClass .int, .fieldLink RX3 9 "MemoryMap$Placements" "last" "[I", .classLink RX3 15 "[[I", .fieldLink RX3 17 "MemoryMap$Placements" "kept" "[[I", .fieldLink RX3 20 "MemoryMap$Placements" "sectionCounts" "[I"] ++ wsX30)
def wsX3_add : List Cond := .code yX3_add cX3_add 3 none :: ([.fieldLink RX3 9 "MemoryMap$Placements" "last" "[I", .methodLink RX3 23 arraycopyName, .native arraycopyName, .static arraycopyName, .initialized "java/lang/System", .fieldLink RX3 29 "MemoryMap$Placements" "lastCount" "I", .fieldLink RX3 33 "MemoryMap$Placements" "keptCount" "I", .fieldLink RX3 17 "MemoryMap$Placements" "kept" "[[I", .fieldLink RX3 20 "MemoryMap$Placements" "sectionCounts" "[I"] ++ wsX30)
def wsX3_countMovedSince : List Cond := .code yX3_countMovedSince cX3_countMovedSince 4 (some .int) :: ([.fieldLink RX3 20 "MemoryMap$Placements" "sectionCounts" "[I", .fieldLink RX3 17 "MemoryMap$Placements" "kept" "[[I", .fieldLink RX3 9 "MemoryMap$Placements" "last" "[I"] ++ wsX30)
def wsX4_init : List Cond := .code yX4_init cX4_init 1 none :: ([.methodLink RX4 3 objectInit, .instanceMethod objectInit, .code objectInit ⟨#[0xb1]⟩ 1 none, .arrayClass .int, .fieldLink RX4 9 "MemoryMap$Regions" "starts" "[I", .fieldLink RX4 15 "MemoryMap$Regions" "ends" "[I", .fieldLink RX4 18 "MemoryMap$Regions" "rights" "[I"] ++ wsX40)
def wsX4_overlap : List Cond := .code yX4_overlap cX4_overlap 4 (some .boolean) :: ([.fieldLink RX4 21 "MemoryMap$Regions" "count" "I", .fieldLink RX4 15 "MemoryMap$Regions" "ends" "[I", .fieldLink RX4 9 "MemoryMap$Regions" "starts" "[I"] ++ wsX40)
def wsX4_allow : List Cond := .code yX4_allow cX4_allow 3 (some .boolean) :: ([.fieldLink RX4 18 "MemoryMap$Regions" "rights" "[I"] ++ wsX40)
def wsX4_add : List Cond := .code yX4_add cX4_add 4 (some .int) :: ([.fieldLink RX4 21 "MemoryMap$Regions" "count" "I", .fieldLink RX4 9 "MemoryMap$Regions" "starts" "[I", .fieldLink RX4 15 "MemoryMap$Regions" "ends" "[I", .fieldLink RX4 18 "MemoryMap$Regions" "rights" "[I"] ++ wsX40)
def wsX5_init : List Cond := .code yX5_init cX5_init 1 none :: ([.methodLink RX5 3 objectInit, .instanceMethod objectInit, .code objectInit ⟨#[0xb1]⟩ 1 none, .arrayClass .int, .fieldLink RX5 9 "MemoryMap$Sections" "lengths" "[I", .fieldLink RX5 15 "MemoryMap$Sections" "aligns" "[I", .fieldLink RX5 18 "MemoryMap$Sections" "kinds" "[I", .fieldLink RX5 21 "MemoryMap$Sections" "greatestFirst" "[I"] ++ wsX50)
def wsX5_enterInOrder : List Cond := .code yX5_enterInOrder cX5_enterInOrder 3 none :: ([.fieldLink RX5 9 "MemoryMap$Sections" "lengths" "[I", .fieldLink RX5 21 "MemoryMap$Sections" "greatestFirst" "[I"] ++ wsX50)
def wsX5_add : List Cond := .code yX5_add cX5_add 4 (some .int) :: ([.fieldLink RX5 24 "MemoryMap$Sections" "count" "I", .fieldLink RX5 9 "MemoryMap$Sections" "lengths" "[I", .fieldLink RX5 15 "MemoryMap$Sections" "aligns" "[I", .fieldLink RX5 18 "MemoryMap$Sections" "kinds" "[I", .methodLink RX5 28 yX5_enterInOrder, .instanceMethod yX5_enterInOrder, .selects RX5 yX5_enterInOrder yX5_enterInOrder, .initialized RX5, .code yX5_enterInOrder cX5_enterInOrder 3 none, .fieldLink RX5 21 "MemoryMap$Sections" "greatestFirst" "[I"] ++ wsX50)
def wsX6_init : List Cond := .code yX6_init cX6_init 1 none :: ([.methodLink RX6 3 objectInit, .instanceMethod objectInit, .code objectInit ⟨#[0xb1]⟩ 1 none, .arrayClass .int, .fieldLink RX6 9 "MemoryMap$Taken" "starts" "[I", .fieldLink RX6 15 "MemoryMap$Taken" "ends" "[I"] ++ wsX60)
def wsX6_clear : List Cond := .code yX6_clear cX6_clear 1 none :: ([.fieldLink RX6 18 "MemoryMap$Taken" "count" "I"] ++ wsX60)
def wsX6_alignedUp : List Cond := .code yX6_alignedUp cX6_alignedUp 2 (some .int) :: ([])
def wsX6_leastFree : List Cond := .code yX6_leastFree cX6_leastFree 6 (some .int) :: ([.fieldLink RX6 18 "MemoryMap$Taken" "count" "I", .fieldLink RX6 9 "MemoryMap$Taken" "starts" "[I", .fieldLink RX6 15 "MemoryMap$Taken" "ends" "[I", .methodLink RX6 22 yX6_alignedUp, .static yX6_alignedUp, .initialized RX6, .code yX6_alignedUp cX6_alignedUp 2 (some .int)] ++ wsX60)
def wsX6_add : List Cond := .code yX6_add cX6_add 4 none :: ([.fieldLink RX6 18 "MemoryMap$Taken" "count" "I", .fieldLink RX6 9 "MemoryMap$Taken" "starts" "[I", .fieldLink RX6 15 "MemoryMap$Taken" "ends" "[I"] ++ wsX60)
def wsX7_init_r1 : List Cond := [Cond.methodLink RX7 1 objectInit, Cond.instanceMethod objectInit, Cond.code objectInit ⟨#[0xb1]⟩ 1 none, Cond.classLink RX7 7 RX4, Cond.instantiable RX4 4, Cond.initialized RX4, Cond.fieldLink RX7 10 "MemoryMap" "regions" "LMemoryMap$Regions;", Cond.classLink RX7 16 RX5, Cond.instantiable RX5 5, Cond.initialized RX5, Cond.fieldLink RX7 19 "MemoryMap" "sections" "LMemoryMap$Sections;", Cond.classLink RX7 23 RX6, Cond.instantiable RX6 3, Cond.initialized RX6, Cond.fieldLink RX7 26 "MemoryMap" "taken" "LMemoryMap$Taken;", Cond.arrayClass .int, Cond.fieldLink RX7 30 "MemoryMap" "trial" "[I", Cond.classLink RX7 34 RX3, Cond.instantiable RX3 5, Cond.initialized RX3, Cond.fieldLink RX7 37 "MemoryMap" "placements" "LMemoryMap$Placements;", Cond.classLink RX7 41 RX2, Cond.instantiable RX2 3, Cond.initialized RX2]
def wsX7_init_r2 : List Cond := [Cond.fieldLink RX7 44 "MemoryMap" "functions" "LMemoryMap$Functions;", Cond.classLink RX7 48 RX0, Cond.fieldLink RX7 50 "MemoryMap" "blocks" "[LMemoryMap$Block;", Cond.constantLong RX7 54 (65536), Cond.fieldLink RX7 60 "MemoryMap" "size" "I", Cond.instanceMethod yX4_init, Cond.code yX4_init cX4_init 1 none, Cond.methodLink RX4 3 objectInit, Cond.fieldLink RX4 9 "MemoryMap$Regions" "starts" "[I", Cond.fieldLink RX4 15 "MemoryMap$Regions" "ends" "[I", Cond.fieldLink RX4 18 "MemoryMap$Regions" "rights" "[I", Cond.instanceMethod yX5_init, Cond.code yX5_init cX5_init 1 none, Cond.methodLink RX5 3 objectInit, Cond.fieldLink RX5 9 "MemoryMap$Sections" "lengths" "[I", Cond.fieldLink RX5 15 "MemoryMap$Sections" "aligns" "[I", Cond.fieldLink RX5 18 "MemoryMap$Sections" "kinds" "[I", Cond.fieldLink RX5 21 "MemoryMap$Sections" "greatestFirst" "[I", Cond.instanceMethod yX6_init, Cond.code yX6_init cX6_init 1 none, Cond.methodLink RX6 3 objectInit, Cond.fieldLink RX6 9 "MemoryMap$Taken" "starts" "[I", Cond.fieldLink RX6 15 "MemoryMap$Taken" "ends" "[I", Cond.instanceMethod yX3_init]
def wsX7_init_r3 : List Cond := [Cond.code yX3_init cX3_init 1 none, Cond.methodLink RX3 3 objectInit, Cond.fieldLink RX3 9 "MemoryMap$Placements" "last" "[I", Cond.classLink RX3 15 "[[I", Cond.fieldLink RX3 17 "MemoryMap$Placements" "kept" "[[I", Cond.fieldLink RX3 20 "MemoryMap$Placements" "sectionCounts" "[I", Cond.instanceMethod yX2_init, Cond.code yX2_init cX2_init 1 none, Cond.methodLink RX2 3 objectInit, Cond.fieldLink RX2 9 "MemoryMap$Functions" "stacks" "[I", Cond.fieldLink RX2 15 "MemoryMap$Functions" "called" "[I", Cond.fieldLink RX2 18 "MemoryMap$Functions" "depths" "[I", Cond.methodLink RX7 56 yX7_isWithin, Cond.static yX7_isWithin, Cond.initialized RX7, Cond.code yX7_isWithin cX7_isWithin 6 (some .boolean)]
def wsX7_init : List Cond := .code yX7_init cX7_init 3 none :: ((wsX7_init_r1 ++ (wsX7_init_r2 ++ wsX7_init_r3)) ++ wsX40 ++ wsX70 ++ wsX50 ++ wsX60 ++ wsX30 ++ wsX20)
def wsX7_region : List Cond := .code yX7_region cX7_region 9 (some .int) :: ([.fieldLink RX7 60 "MemoryMap" "size" "I", .constantLong RX7 64 (7), .fieldLink RX7 10 "MemoryMap" "regions" "LMemoryMap$Regions;", .methodLink RX7 56 yX7_isWithin, .static yX7_isWithin, .initialized RX7, .code yX7_isWithin cX7_isWithin 6 (some .boolean), .instanceMethod yX4_overlap, .initialized RX4, .selects RX4 yX4_overlap yX4_overlap, .code yX4_overlap cX4_overlap 4 (some .boolean), .fieldLink RX4 21 "MemoryMap$Regions" "count" "I", .fieldLink RX4 15 "MemoryMap$Regions" "ends" "[I", .fieldLink RX4 9 "MemoryMap$Regions" "starts" "[I", .instanceMethod yX4_add, .selects RX4 yX4_add yX4_add, .code yX4_add cX4_add 4 (some .int), .fieldLink RX4 18 "MemoryMap$Regions" "rights" "[I"] ++ wsX70 ++ wsX40)
def wsX7_section : List Cond := .code yX7_section cX7_section 6 (some .int) :: ([.classLink RX7 77 "java/lang/ArithmeticException", .initialized "java/lang/ArithmeticException", .constantLong RX7 54 (65536), .constantLong RX7 64 (7), .fieldLink RX7 19 "MemoryMap" "sections" "LMemoryMap$Sections;", .methodLink RX7 56 yX7_isWithin, .static yX7_isWithin, .initialized RX7, .code yX7_isWithin cX7_isWithin 6 (some .boolean), .instanceMethod yX5_add, .initialized RX5, .selects RX5 yX5_add yX5_add, .code yX5_add cX5_add 4 (some .int), .fieldLink RX5 24 "MemoryMap$Sections" "count" "I", .fieldLink RX5 9 "MemoryMap$Sections" "lengths" "[I", .fieldLink RX5 15 "MemoryMap$Sections" "aligns" "[I", .fieldLink RX5 18 "MemoryMap$Sections" "kinds" "[I", .methodLink RX5 28 yX5_enterInOrder, .instanceMethod yX5_enterInOrder, .selects RX5 yX5_enterInOrder yX5_enterInOrder, .code yX5_enterInOrder cX5_enterInOrder 3 none, .fieldLink RX5 21 "MemoryMap$Sections" "greatestFirst" "[I"] ++ wsX70 ++ wsX50 ++ (vx_atS RX7 81 "java/lang/ArithmeticException" ["java/lang/RuntimeException", "java/lang/Exception"]).filter goodWord)
def wsX7_takeSpaceFor : List Cond := .code yX7_takeSpaceFor cX7_takeSpaceFor 5 (some .int) :: ([.fieldLink RX7 19 "MemoryMap" "sections" "LMemoryMap$Sections;", .fieldLink RX7 10 "MemoryMap" "regions" "LMemoryMap$Regions;", .fieldLink RX7 26 "MemoryMap" "taken" "LMemoryMap$Taken;", .instanceMethod yX4_allow, .initialized RX4, .selects RX4 yX4_allow yX4_allow, .code yX4_allow cX4_allow 3 (some .boolean), .fieldLink RX4 18 "MemoryMap$Regions" "rights" "[I", .instanceMethod yX6_leastFree, .initialized RX6, .selects RX6 yX6_leastFree yX6_leastFree, .code yX6_leastFree cX6_leastFree 6 (some .int), .fieldLink RX6 18 "MemoryMap$Taken" "count" "I", .fieldLink RX6 9 "MemoryMap$Taken" "starts" "[I", .fieldLink RX6 15 "MemoryMap$Taken" "ends" "[I", .methodLink RX6 22 yX6_alignedUp, .static yX6_alignedUp, .code yX6_alignedUp cX6_alignedUp 2 (some .int), .instanceMethod yX6_add, .selects RX6 yX6_add yX6_add, .code yX6_add cX6_add 4 none] ++ wsX70 ++ wsX50 ++ wsX40 ++ wsX60)
def wsX7_place_r1 : List Cond := [Cond.fieldLink RX7 26 "MemoryMap" "taken" "LMemoryMap$Taken;", Cond.fieldLink RX7 19 "MemoryMap" "sections" "LMemoryMap$Sections;", Cond.fieldLink RX7 30 "MemoryMap" "trial" "[I", Cond.fieldLink RX7 37 "MemoryMap" "placements" "LMemoryMap$Placements;", Cond.instanceMethod yX6_clear, Cond.initialized RX6, Cond.selects RX6 yX6_clear yX6_clear, Cond.code yX6_clear cX6_clear 1 none, Cond.fieldLink RX6 18 "MemoryMap$Taken" "count" "I", Cond.methodLink RX7 91 yX7_takeSpaceFor, Cond.instanceMethod yX7_takeSpaceFor, Cond.selects RX7 yX7_takeSpaceFor yX7_takeSpaceFor, Cond.initialized RX7, Cond.code yX7_takeSpaceFor cX7_takeSpaceFor 5 (some .int), Cond.fieldLink RX7 10 "MemoryMap" "regions" "LMemoryMap$Regions;", Cond.instanceMethod yX4_allow, Cond.initialized RX4, Cond.selects RX4 yX4_allow yX4_allow, Cond.code yX4_allow cX4_allow 3 (some .boolean), Cond.fieldLink RX4 18 "MemoryMap$Regions" "rights" "[I", Cond.instanceMethod yX6_leastFree, Cond.selects RX6 yX6_leastFree yX6_leastFree, Cond.code yX6_leastFree cX6_leastFree 6 (some .int), Cond.fieldLink RX6 9 "MemoryMap$Taken" "starts" "[I"]
def wsX7_place_r2 : List Cond := [Cond.fieldLink RX6 15 "MemoryMap$Taken" "ends" "[I", Cond.methodLink RX6 22 yX6_alignedUp, Cond.static yX6_alignedUp, Cond.code yX6_alignedUp cX6_alignedUp 2 (some .int), Cond.instanceMethod yX6_add, Cond.selects RX6 yX6_add yX6_add, Cond.code yX6_add cX6_add 4 none, Cond.instanceMethod yX3_add, Cond.initialized RX3, Cond.selects RX3 yX3_add yX3_add, Cond.code yX3_add cX3_add 3 none, Cond.fieldLink RX3 9 "MemoryMap$Placements" "last" "[I", Cond.methodLink RX3 23 arraycopyName, Cond.native arraycopyName, Cond.static arraycopyName, Cond.initialized "java/lang/System", Cond.fieldLink RX3 29 "MemoryMap$Placements" "lastCount" "I", Cond.fieldLink RX3 33 "MemoryMap$Placements" "keptCount" "I", Cond.fieldLink RX3 17 "MemoryMap$Placements" "kept" "[[I", Cond.fieldLink RX3 20 "MemoryMap$Placements" "sectionCounts" "[I"]
def wsX7_place : List Cond := .code yX7_place cX7_place 4 (some .int) :: ((wsX7_place_r1 ++ wsX7_place_r2) ++ wsX70 ++ wsX50 ++ wsX60 ++ wsX40 ++ wsX30)
def wsX7_at : List Cond := .code yX7_at cX7_at 2 (some .long) :: ([.fieldLink RX7 19 "MemoryMap" "sections" "LMemoryMap$Sections;", .constantLong RX7 98 (-1), .fieldLink RX7 37 "MemoryMap" "placements" "LMemoryMap$Placements;", .constantLong RX7 103 (-3), .methodLink RX7 56 yX7_isWithin, .static yX7_isWithin, .initialized RX7, .code yX7_isWithin cX7_isWithin 6 (some .boolean)] ++ wsX70 ++ wsX50 ++ wsX30)
def wsX7_call : List Cond := .code yX7_call cX7_call 5 (some .int) :: ([.constantLong RX7 108 (30), .constantLong RX7 110 (1000000), .fieldLink RX7 44 "MemoryMap" "functions" "LMemoryMap$Functions;", .methodLink RX7 56 yX7_isWithin, .static yX7_isWithin, .initialized RX7, .code yX7_isWithin cX7_isWithin 6 (some .boolean), .instanceMethod yX2_addCall, .initialized RX2, .selects RX2 yX2_addCall yX2_addCall, .code yX2_addCall cX2_addCall 3 none, .fieldLink RX2 15 "MemoryMap$Functions" "called" "[I", .instanceMethod yX2_countCalls, .selects RX2 yX2_countCalls yX2_countCalls, .code yX2_countCalls cX2_countCalls 2 (some .int), .methodLink RX2 21 yJ6_bitCount_0f7a4, .static yJ6_bitCount_0f7a4, .initialized RJ6, .code yJ6_bitCount_0f7a4 cJ6_bitCount_0f7a4 1 (some .int), .constant RJ6 265 (1431655765), .constant RJ6 266 (858993459), .constant RJ6 267 (252645135)] ++ wsX70 ++ wsX20)
def wsX7_depth_r1 : List Cond := [Cond.constantLong RX7 108 (30), Cond.constantLong RX7 122 (-2), Cond.fieldLink RX7 44 "MemoryMap" "functions" "LMemoryMap$Functions;", Cond.methodLink RX7 56 yX7_isWithin, Cond.static yX7_isWithin, Cond.initialized RX7, Cond.code yX7_isWithin cX7_isWithin 6 (some .boolean), Cond.instanceMethod yX2_depthFrom, Cond.initialized RX2, Cond.selects RX2 yX2_depthFrom yX2_depthFrom, Cond.code yX2_depthFrom cX2_depthFrom 4 (some .int), Cond.fieldLink RX2 18 "MemoryMap$Functions" "depths" "[I", Cond.methodLink RX2 27 yX2_contains, Cond.static yX2_contains, Cond.code yX2_contains cX2_contains 2 (some .boolean), Cond.methodLink RX2 31 yX2_settleMore, Cond.instanceMethod yX2_settleMore, Cond.selects RX2 yX2_settleMore yX2_settleMore, Cond.code yX2_settleMore cX2_settleMore 4 (some .int), Cond.fieldLink RX2 15 "MemoryMap$Functions" "called" "[I", Cond.fieldLink RX2 9 "MemoryMap$Functions" "stacks" "[I", Cond.methodLink RX2 34 yX2_deepestCalled, Cond.instanceMethod yX2_deepestCalled, Cond.selects RX2 yX2_deepestCalled yX2_deepestCalled]
def wsX7_depth_r2 : List Cond := [Cond.code yX2_deepestCalled cX2_deepestCalled 4 (some .int), Cond.methodLink RX2 37 Lib.Math.max.name, Cond.static Lib.Math.max.name, Cond.initialized "java/lang/Math", Cond.code Lib.Math.max.name Lib.Math.max.code 2 (some .int)]
def wsX7_depth : List Cond := .code yX7_depth cX7_depth 2 (some .long) :: ((wsX7_depth_r1 ++ wsX7_depth_r2) ++ wsX70 ++ wsX20)
def wsX7_block_r1 : List Cond := [Cond.constantLong RX7 127 (32), Cond.fieldLink RX7 129 "MemoryMap" "blockCount" "I", Cond.fieldLink RX7 50 "MemoryMap" "blocks" "[LMemoryMap$Block;", Cond.classLink RX7 48 RX0, Cond.instantiable RX0 3, Cond.initialized RX0, Cond.methodLink RX7 56 yX7_isWithin, Cond.static yX7_isWithin, Cond.initialized RX7, Cond.code yX7_isWithin cX7_isWithin 6 (some .boolean), Cond.instanceMethod yX0_init, Cond.code yX0_init cX0_init 2 none, Cond.methodLink RX0 1 objectInit, Cond.instanceMethod objectInit, Cond.code objectInit ⟨#[0xb1]⟩ 1 none, Cond.fieldLink RX0 7 "MemoryMap$Block" "length" "I", Cond.classLink RX0 13 RX1, Cond.instantiable RX1 2, Cond.initialized RX1, Cond.fieldLink RX0 18 "MemoryMap$Block" "first" "LMemoryMap$Copy;", Cond.fieldLink RX0 22 "MemoryMap$Block" "second" "LMemoryMap$Copy;", Cond.instanceMethod yX1_init, Cond.code yX1_init cX1_init 2 none, Cond.methodLink RX1 3 objectInit]
def wsX7_block_r2 : List Cond := [Cond.arrayClass .byte, Cond.fieldLink RX1 9 "MemoryMap$Copy" "octets" "[B", Cond.fieldLink RX1 19 "MemoryMap$Copy" "sum" "I", Cond.methodLink RX1 15 yX1_sumOf, Cond.static yX1_sumOf, Cond.code yX1_sumOf cX1_sumOf 4 (some .int), Cond.constant RX1 35 (-1028477379)]
def wsX7_block : List Cond := .code yX7_block cX7_block 3 (some .int) :: ((wsX7_block_r1 ++ wsX7_block_r2) ++ wsX70 ++ wsX00 ++ wsX10)
def wsX7_blockNumbered : List Cond := .code yX7_blockNumbered cX7_blockNumbered 2 (some (.object "MemoryMap$Block")) :: ([.fieldLink RX7 129 "MemoryMap" "blockCount" "I", .fieldLink RX7 50 "MemoryMap" "blocks" "[LMemoryMap$Block;", .methodLink RX7 56 yX7_isWithin, .static yX7_isWithin, .initialized RX7, .code yX7_isWithin cX7_isWithin 6 (some .boolean)] ++ wsX70)
def wsX7_write_r1 : List Cond := [Cond.methodLink RX7 135 yX7_blockNumbered, Cond.instanceMethod yX7_blockNumbered, Cond.selects RX7 yX7_blockNumbered yX7_blockNumbered, Cond.initialized RX7, Cond.code yX7_blockNumbered cX7_blockNumbered 2 (some (.object "MemoryMap$Block")), Cond.fieldLink RX7 129 "MemoryMap" "blockCount" "I", Cond.fieldLink RX7 50 "MemoryMap" "blocks" "[LMemoryMap$Block;", Cond.methodLink RX7 56 yX7_isWithin, Cond.static yX7_isWithin, Cond.code yX7_isWithin cX7_isWithin 6 (some .boolean), Cond.instanceMethod yX0_hasOctet, Cond.initialized RX0, Cond.selects RX0 yX0_hasOctet yX0_hasOctet, Cond.code yX0_hasOctet cX0_hasOctet 2 (some .boolean), Cond.fieldLink RX0 7 "MemoryMap$Block" "length" "I", Cond.instanceMethod yX1_setOctet, Cond.initialized RX1, Cond.selects RX1 yX1_setOctet yX1_setOctet, Cond.code yX1_setOctet cX1_setOctet 3 none, Cond.fieldLink RX1 9 "MemoryMap$Copy" "octets" "[B", Cond.fieldLink RX1 19 "MemoryMap$Copy" "sum" "I", Cond.methodLink RX1 15 yX1_sumOf, Cond.static yX1_sumOf, Cond.code yX1_sumOf cX1_sumOf 4 (some .int)]
def wsX7_write_r2 : List Cond := [Cond.constant RX1 35 (-1028477379)]
def wsX7_write : List Cond := .code yX7_write cX7_write 5 (some .int) :: ((wsX7_write_r1 ++ wsX7_write_r2) ++ wsX00 ++ wsX70 ++ wsX10)
def wsX7_poke : List Cond := .code yX7_poke cX7_poke 6 (some .int) :: ([.constantLong RX7 156 (2), .methodLink RX7 135 yX7_blockNumbered, .instanceMethod yX7_blockNumbered, .selects RX7 yX7_blockNumbered yX7_blockNumbered, .initialized RX7, .code yX7_blockNumbered cX7_blockNumbered 2 (some (.object "MemoryMap$Block")), .fieldLink RX7 129 "MemoryMap" "blockCount" "I", .fieldLink RX7 50 "MemoryMap" "blocks" "[LMemoryMap$Block;", .methodLink RX7 56 yX7_isWithin, .static yX7_isWithin, .code yX7_isWithin cX7_isWithin 6 (some .boolean), .instanceMethod yX0_hasOctet, .initialized RX0, .selects RX0 yX0_hasOctet yX0_hasOctet, .code yX0_hasOctet cX0_hasOctet 2 (some .boolean), .fieldLink RX0 7 "MemoryMap$Block" "length" "I", .instanceMethod yX1_flip, .initialized RX1, .selects RX1 yX1_flip yX1_flip, .code yX1_flip cX1_flip 3 (some .int), .fieldLink RX1 9 "MemoryMap$Copy" "octets" "[B"] ++ wsX00 ++ wsX70 ++ wsX10)
def wsX7_read_r1 : List Cond := [Cond.methodLink RX7 135 yX7_blockNumbered, Cond.instanceMethod yX7_blockNumbered, Cond.selects RX7 yX7_blockNumbered yX7_blockNumbered, Cond.initialized RX7, Cond.code yX7_blockNumbered cX7_blockNumbered 2 (some (.object "MemoryMap$Block")), Cond.fieldLink RX7 129 "MemoryMap" "blockCount" "I", Cond.fieldLink RX7 50 "MemoryMap" "blocks" "[LMemoryMap$Block;", Cond.methodLink RX7 56 yX7_isWithin, Cond.static yX7_isWithin, Cond.code yX7_isWithin cX7_isWithin 6 (some .boolean), Cond.instanceMethod yX0_repair, Cond.initialized RX0, Cond.selects RX0 yX0_repair yX0_repair, Cond.code yX0_repair cX0_repair 1 (some .int), Cond.fieldLink RX0 18 "MemoryMap$Block" "first" "LMemoryMap$Copy;", Cond.fieldLink RX0 22 "MemoryMap$Block" "second" "LMemoryMap$Copy;", Cond.instanceMethod yX1_isGood, Cond.initialized RX1, Cond.selects RX1 yX1_isGood yX1_isGood, Cond.code yX1_isGood cX1_isGood 1 (some .boolean), Cond.fieldLink RX1 19 "MemoryMap$Copy" "sum" "I", Cond.fieldLink RX1 9 "MemoryMap$Copy" "octets" "[B", Cond.methodLink RX1 15 yX1_sumOf, Cond.static yX1_sumOf]
def wsX7_read_r2 : List Cond := [Cond.code yX1_sumOf cX1_sumOf 4 (some .int), Cond.constant RX1 35 (-1028477379), Cond.instanceMethod yX1_become, Cond.selects RX1 yX1_become yX1_become, Cond.code yX1_become cX1_become 2 none, Cond.methodLink RX1 23 arraycopyName, Cond.native arraycopyName, Cond.static arraycopyName, Cond.initialized "java/lang/System", Cond.instanceMethod yX1_clear, Cond.selects RX1 yX1_clear yX1_clear, Cond.code yX1_clear cX1_clear 1 none, Cond.methodLink RX1 29 yJ7_fill_031fb, Cond.static yJ7_fill_031fb, Cond.initialized RJ7, Cond.code yJ7_fill_031fb cJ7_fill_031fb 4 none]
def wsX7_read : List Cond := .code yX7_read cX7_read 3 (some .int) :: ((wsX7_read_r1 ++ wsX7_read_r2) ++ wsX70 ++ wsX00 ++ wsX10)
def wsX7_cell : List Cond := .code yX7_cell cX7_cell 5 (some .byte) :: ([.fieldLink RX7 60 "MemoryMap" "size" "I", .classLink RX7 166 RJx00060, .instantiable RJx00060 6, .initialized RJx00060, .fieldLink RX7 37 "MemoryMap" "placements" "LMemoryMap$Placements;", .fieldLink RX7 19 "MemoryMap" "sections" "LMemoryMap$Sections;"] ++ wsX70 ++ wsJx000600 ++ wsX30 ++ wsX50)
def wsX7_moved : List Cond := .code yX7_moved cX7_moved 2 (some .int) :: ([.fieldLink RX7 37 "MemoryMap" "placements" "LMemoryMap$Placements;", .methodLink RX7 56 yX7_isWithin, .static yX7_isWithin, .initialized RX7, .code yX7_isWithin cX7_isWithin 6 (some .boolean), .instanceMethod yX3_countMovedSince, .initialized RX3, .selects RX3 yX3_countMovedSince yX3_countMovedSince, .code yX3_countMovedSince cX3_countMovedSince 4 (some .int), .fieldLink RX3 20 "MemoryMap$Placements" "sectionCounts" "[I", .fieldLink RX3 17 "MemoryMap$Placements" "kept" "[[I", .fieldLink RX3 9 "MemoryMap$Placements" "last" "[I"] ++ wsX70 ++ wsX30)
def wsX8_init_r1 : List Cond := [Cond.methodLink RX8 1 objectInit, Cond.instanceMethod objectInit, Cond.code objectInit ⟨#[0xb1]⟩ 1 none, Cond.arrayClass .int, Cond.fieldLink RX8 7 "MemoryMapModel" "froms" "[I", Cond.fieldLink RX8 13 "MemoryMapModel" "ends" "[I", Cond.fieldLink RX8 16 "MemoryMapModel" "rights" "[I", Cond.fieldLink RX8 19 "MemoryMapModel" "lengths" "[I", Cond.fieldLink RX8 22 "MemoryMapModel" "aligns" "[I", Cond.fieldLink RX8 25 "MemoryMapModel" "kinds" "[I", Cond.constant RX8 28 (65536), Cond.arrayClass .byte, Cond.fieldLink RX8 29 "MemoryMapModel" "taken" "[B", Cond.fieldLink RX8 33 "MemoryMapModel" "cells" "[B", Cond.fieldLink RX8 36 "MemoryMapModel" "places" "[I", Cond.fieldLink RX8 39 "MemoryMapModel" "trial" "[I", Cond.fieldLink RX8 42 "MemoryMapModel" "kept" "[I", Cond.fieldLink RX8 45 "MemoryMapModel" "keptMany" "[I", Cond.arrayClass .long, Cond.fieldLink RX8 48 "MemoryMapModel" "stacks" "[J", Cond.arrayClass .boolean, Cond.fieldLink RX8 52 "MemoryMapModel" "calls" "[Z", Cond.fieldLink RX8 56 "MemoryMapModel" "depths" "[J", Cond.fieldLink RX8 59 "MemoryMapModel" "octets" "[I"]
def wsX8_init_r2 : List Cond := [Cond.fieldLink RX8 62 "MemoryMapModel" "copies" "[B", Cond.fieldLink RX8 65 "MemoryMapModel" "sums" "[I", Cond.constantLong RX8 68 (65536), Cond.fieldLink RX8 70 "MemoryMapModel" "size" "I"]
def wsX8_init : List Cond := .code yX8_init cX8_init 4 none :: ((wsX8_init_r1 ++ wsX8_init_r2) ++ wsX80)
def wsX8_thrown : List Cond := .code yX8_thrown cX8_thrown 1 (some .int) :: ([.fieldLink RX8 74 "MemoryMapModel" "thrown" "I"] ++ wsX80)
def wsX8_region : List Cond := .code yX8_region cX8_region 7 (some .int) :: ([.fieldLink RX8 74 "MemoryMapModel" "thrown" "I", .fieldLink RX8 70 "MemoryMapModel" "size" "I", .fieldLink RX8 77 "MemoryMapModel" "regions" "I", .fieldLink RX8 13 "MemoryMapModel" "ends" "[I", .fieldLink RX8 7 "MemoryMapModel" "froms" "[I", .fieldLink RX8 16 "MemoryMapModel" "rights" "[I"] ++ wsX80)
def wsX8_section : List Cond := .code yX8_section cX8_section 6 (some .int) :: ([.fieldLink RX8 74 "MemoryMapModel" "thrown" "I", .constantLong RX8 68 (65536), .fieldLink RX8 80 "MemoryMapModel" "sections" "I", .fieldLink RX8 19 "MemoryMapModel" "lengths" "[I", .fieldLink RX8 22 "MemoryMapModel" "aligns" "[I", .fieldLink RX8 25 "MemoryMapModel" "kinds" "[I"] ++ wsX80)
def wsX8_isBefore : List Cond := .code yX8_isBefore cX8_isBefore 3 (some .boolean) :: ([.fieldLink RX8 19 "MemoryMapModel" "lengths" "[I"] ++ wsX80)
def wsX8_next : List Cond := .code yX8_next cX8_next 4 (some .int) :: ([.fieldLink RX8 80 "MemoryMapModel" "sections" "I", .methodLink RX8 83 yX8_isBefore, .instanceMethod yX8_isBefore, .selects RX8 yX8_isBefore yX8_isBefore, .initialized RX8, .code yX8_isBefore cX8_isBefore 3 (some .boolean), .fieldLink RX8 19 "MemoryMapModel" "lengths" "[I"] ++ wsX80)
def wsX8_up : List Cond := .code yX8_up cX8_up 2 (some .int) :: ([])
def wsX8_find : List Cond := .code yX8_find cX8_find 5 (some .int) :: ([.fieldLink RX8 7 "MemoryMapModel" "froms" "[I", .fieldLink RX8 22 "MemoryMapModel" "aligns" "[I", .fieldLink RX8 19 "MemoryMapModel" "lengths" "[I", .fieldLink RX8 13 "MemoryMapModel" "ends" "[I", .fieldLink RX8 29 "MemoryMapModel" "taken" "[B", .methodLink RX8 87 yX8_up, .static yX8_up, .initialized RX8, .code yX8_up cX8_up 2 (some .int)] ++ wsX80)
def wsX8_findAny : List Cond := .code yX8_findAny cX8_findAny 4 (some .int) :: ([.fieldLink RX8 77 "MemoryMapModel" "regions" "I", .fieldLink RX8 16 "MemoryMapModel" "rights" "[I", .fieldLink RX8 25 "MemoryMapModel" "kinds" "[I", .methodLink RX8 91 yX8_find, .instanceMethod yX8_find, .selects RX8 yX8_find yX8_find, .initialized RX8, .code yX8_find cX8_find 5 (some .int), .fieldLink RX8 7 "MemoryMapModel" "froms" "[I", .fieldLink RX8 22 "MemoryMapModel" "aligns" "[I", .fieldLink RX8 19 "MemoryMapModel" "lengths" "[I", .fieldLink RX8 13 "MemoryMapModel" "ends" "[I", .fieldLink RX8 29 "MemoryMapModel" "taken" "[B", .methodLink RX8 87 yX8_up, .static yX8_up, .code yX8_up cX8_up 2 (some .int)] ++ wsX80)
def wsX8_place_r1 : List Cond := [Cond.fieldLink RX8 74 "MemoryMapModel" "thrown" "I", Cond.fieldLink RX8 70 "MemoryMapModel" "size" "I", Cond.fieldLink RX8 29 "MemoryMapModel" "taken" "[B", Cond.fieldLink RX8 39 "MemoryMapModel" "trial" "[I", Cond.fieldLink RX8 19 "MemoryMapModel" "lengths" "[I", Cond.fieldLink RX8 80 "MemoryMapModel" "sections" "I", Cond.fieldLink RX8 101 "MemoryMapModel" "placed" "I", Cond.fieldLink RX8 104 "MemoryMapModel" "placements" "I", Cond.fieldLink RX8 33 "MemoryMapModel" "cells" "[B", Cond.fieldLink RX8 36 "MemoryMapModel" "places" "[I", Cond.fieldLink RX8 42 "MemoryMapModel" "kept" "[I", Cond.fieldLink RX8 45 "MemoryMapModel" "keptMany" "[I", Cond.methodLink RX8 94 yX8_next, Cond.instanceMethod yX8_next, Cond.selects RX8 yX8_next yX8_next, Cond.initialized RX8, Cond.code yX8_next cX8_next 4 (some .int), Cond.methodLink RX8 83 yX8_isBefore, Cond.instanceMethod yX8_isBefore, Cond.selects RX8 yX8_isBefore yX8_isBefore, Cond.code yX8_isBefore cX8_isBefore 3 (some .boolean), Cond.methodLink RX8 98 yX8_findAny, Cond.instanceMethod yX8_findAny, Cond.selects RX8 yX8_findAny yX8_findAny]
def wsX8_place_r2 : List Cond := [Cond.code yX8_findAny cX8_findAny 4 (some .int), Cond.fieldLink RX8 77 "MemoryMapModel" "regions" "I", Cond.fieldLink RX8 16 "MemoryMapModel" "rights" "[I", Cond.fieldLink RX8 25 "MemoryMapModel" "kinds" "[I", Cond.methodLink RX8 91 yX8_find, Cond.instanceMethod yX8_find, Cond.selects RX8 yX8_find yX8_find, Cond.code yX8_find cX8_find 5 (some .int), Cond.fieldLink RX8 7 "MemoryMapModel" "froms" "[I", Cond.fieldLink RX8 22 "MemoryMapModel" "aligns" "[I", Cond.fieldLink RX8 13 "MemoryMapModel" "ends" "[I", Cond.methodLink RX8 87 yX8_up, Cond.static yX8_up, Cond.code yX8_up cX8_up 2 (some .int)]
def wsX8_place : List Cond := .code yX8_place cX8_place 3 (some .int) :: ((wsX8_place_r1 ++ wsX8_place_r2) ++ wsX80)
def wsX8_at : List Cond := .code yX8_at cX8_at 2 (some .long) :: ([.fieldLink RX8 74 "MemoryMapModel" "thrown" "I", .fieldLink RX8 80 "MemoryMapModel" "sections" "I", .constantLong RX8 107 (-1), .fieldLink RX8 104 "MemoryMapModel" "placements" "I", .fieldLink RX8 101 "MemoryMapModel" "placed" "I", .constantLong RX8 109 (-3), .fieldLink RX8 36 "MemoryMapModel" "places" "[I"] ++ wsX80)
def wsX8_cell : List Cond := .code yX8_cell cX8_cell 3 (some .byte) :: ([.fieldLink RX8 70 "MemoryMapModel" "size" "I", .fieldLink RX8 74 "MemoryMapModel" "thrown" "I", .fieldLink RX8 33 "MemoryMapModel" "cells" "[B"] ++ wsX80)
def wsX8_moved : List Cond := .code yX8_moved cX8_moved 4 (some .int) :: ([.fieldLink RX8 74 "MemoryMapModel" "thrown" "I", .fieldLink RX8 104 "MemoryMapModel" "placements" "I", .fieldLink RX8 45 "MemoryMapModel" "keptMany" "[I", .fieldLink RX8 42 "MemoryMapModel" "kept" "[I", .fieldLink RX8 36 "MemoryMapModel" "places" "[I"] ++ wsX80)
def wsX8_call : List Cond := .code yX8_call cX8_call 7 (some .int) :: ([.fieldLink RX8 74 "MemoryMapModel" "thrown" "I", .constantLong RX8 111 (1000000), .fieldLink RX8 48 "MemoryMapModel" "stacks" "[J", .fieldLink RX8 52 "MemoryMapModel" "calls" "[Z"] ++ wsX80)
def wsX8_reckon : List Cond := .code yX8_reckon cX8_reckon 5 (some .long) :: ([.fieldLink RX8 52 "MemoryMapModel" "calls" "[Z", .fieldLink RX8 56 "MemoryMapModel" "depths" "[J", .constantLong RX8 107 (-1), .fieldLink RX8 48 "MemoryMapModel" "stacks" "[J"] ++ wsX80)
def wsX8_depth : List Cond := .code yX8_depth cX8_depth 4 (some .long) :: ([.fieldLink RX8 74 "MemoryMapModel" "thrown" "I", .constantLong RX8 113 (-2), .fieldLink RX8 56 "MemoryMapModel" "depths" "[J", .constantLong RX8 107 (-1), .methodLink RX8 115 yX8_reckon, .instanceMethod yX8_reckon, .selects RX8 yX8_reckon yX8_reckon, .initialized RX8, .code yX8_reckon cX8_reckon 5 (some .long), .fieldLink RX8 52 "MemoryMapModel" "calls" "[Z", .fieldLink RX8 48 "MemoryMapModel" "stacks" "[J"] ++ wsX80)
def wsX8_cell_ : List Cond := .code yX8_cell_ cX8_cell_ 3 (some .int) :: ([])
def wsX8_sum : List Cond := .code yX8_sum cX8_sum 6 (some .int) :: ([.fieldLink RX8 59 "MemoryMapModel" "octets" "[I", .fieldLink RX8 62 "MemoryMapModel" "copies" "[B", .constant RX8 131 (-1028477379), .methodLink RX8 127 yX8_cell_, .static yX8_cell_, .initialized RX8, .code yX8_cell_ cX8_cell_ 3 (some .int)] ++ wsX80)
def wsX8_block : List Cond := .code yX8_block cX8_block 3 (some .int) :: ([.fieldLink RX8 74 "MemoryMapModel" "thrown" "I", .constantLong RX8 119 (32), .fieldLink RX8 121 "MemoryMapModel" "blocks" "I", .fieldLink RX8 59 "MemoryMapModel" "octets" "[I", .fieldLink RX8 65 "MemoryMapModel" "sums" "[I", .methodLink RX8 124 yX8_sum, .instanceMethod yX8_sum, .selects RX8 yX8_sum yX8_sum, .initialized RX8, .code yX8_sum cX8_sum 6 (some .int), .fieldLink RX8 62 "MemoryMapModel" "copies" "[B", .constant RX8 131 (-1028477379), .methodLink RX8 127 yX8_cell_, .static yX8_cell_, .code yX8_cell_ cX8_cell_ 3 (some .int)] ++ wsX80)
def wsX8_noBlock : List Cond := .code yX8_noBlock cX8_noBlock 2 (some .boolean) :: ([.fieldLink RX8 121 "MemoryMapModel" "blocks" "I"] ++ wsX80)
def wsX8_write : List Cond := .code yX8_write cX8_write 5 (some .int) :: ([.fieldLink RX8 74 "MemoryMapModel" "thrown" "I", .fieldLink RX8 59 "MemoryMapModel" "octets" "[I", .fieldLink RX8 62 "MemoryMapModel" "copies" "[B", .fieldLink RX8 65 "MemoryMapModel" "sums" "[I", .methodLink RX8 132 yX8_noBlock, .instanceMethod yX8_noBlock, .selects RX8 yX8_noBlock yX8_noBlock, .initialized RX8, .code yX8_noBlock cX8_noBlock 2 (some .boolean), .fieldLink RX8 121 "MemoryMapModel" "blocks" "I", .methodLink RX8 127 yX8_cell_, .static yX8_cell_, .code yX8_cell_ cX8_cell_ 3 (some .int), .methodLink RX8 124 yX8_sum, .instanceMethod yX8_sum, .selects RX8 yX8_sum yX8_sum, .code yX8_sum cX8_sum 6 (some .int), .constant RX8 131 (-1028477379)] ++ wsX80)
def wsX8_poke : List Cond := .code yX8_poke cX8_poke 6 (some .int) :: ([.fieldLink RX8 74 "MemoryMapModel" "thrown" "I", .fieldLink RX8 59 "MemoryMapModel" "octets" "[I", .fieldLink RX8 62 "MemoryMapModel" "copies" "[B", .methodLink RX8 132 yX8_noBlock, .instanceMethod yX8_noBlock, .selects RX8 yX8_noBlock yX8_noBlock, .initialized RX8, .code yX8_noBlock cX8_noBlock 2 (some .boolean), .fieldLink RX8 121 "MemoryMapModel" "blocks" "I", .methodLink RX8 127 yX8_cell_, .static yX8_cell_, .code yX8_cell_ cX8_cell_ 3 (some .int)] ++ wsX80)
def wsX8_read : List Cond := .code yX8_read cX8_read 5 (some .int) :: ([.fieldLink RX8 74 "MemoryMapModel" "thrown" "I", .fieldLink RX8 65 "MemoryMapModel" "sums" "[I", .fieldLink RX8 59 "MemoryMapModel" "octets" "[I", .fieldLink RX8 62 "MemoryMapModel" "copies" "[B", .methodLink RX8 132 yX8_noBlock, .instanceMethod yX8_noBlock, .selects RX8 yX8_noBlock yX8_noBlock, .initialized RX8, .code yX8_noBlock cX8_noBlock 2 (some .boolean), .fieldLink RX8 121 "MemoryMapModel" "blocks" "I", .methodLink RX8 124 yX8_sum, .instanceMethod yX8_sum, .selects RX8 yX8_sum yX8_sum, .code yX8_sum cX8_sum 6 (some .int), .constant RX8 131 (-1028477379), .methodLink RX8 127 yX8_cell_, .static yX8_cell_, .code yX8_cell_ cX8_cell_ 3 (some .int)] ++ wsX80)
def wsJx00060_init_a7421 : List Cond := .code yJx00060_init_a7421 cJx00060_init_a7421 2 none :: ([])
def wsJ9_max_7cf53 : List Cond := .code yJ9_max_7cf53 cJ9_max_7cf53 2 (some .int) :: ([])
abbrev vwCl : List vw_C := [(RJx00060, TJx00060, 6), (RX0, TX0, 3), (RX1, TX1, 2), (RX2, TX2, 3), (RX3, TX3, 5), (RX4, TX4, 4), (RX5, TX5, 5), (RX6, TX6, 3), (RX7, TX7, 9), (RX8, TX8, 25)]
set_option maxRecDepth 20000 in
theorem ggX0_init_X1_init : GoodIn wsX0_init wsX1_init := goodIn_r _ [11, 12, 2, 3, 13, 14, 15, 16, 17, 7, 18, 19, 23, 24] (by decide +kernel) (by decide +kernel)
set_option maxRecDepth 20000 in
theorem gX0_init_X1_init_n15 : GoodIn wsX0_init (wsX1_init) := ggX0_init_X1_init
theorem dX0_init_0 : decode cX0_init 0 = .ok (.aload_n 0, 1) := by decide +kernel
theorem dX0_init_1 : decode cX0_init 1 = .ok (.invokespecial 1, 3) := by decide +kernel
theorem dX0_init_4 : decode cX0_init 4 = .ok (.aload_n 0, 1) := by decide +kernel
theorem dX0_init_5 : decode cX0_init 5 = .ok (.iload_n 1, 1) := by decide +kernel
theorem dX0_init_6 : decode cX0_init 6 = .ok (.putfield 7, 3) := by decide +kernel
theorem dX0_init_9 : decode cX0_init 9 = .ok (.aload_n 0, 1) := by decide +kernel
theorem dX0_init_10 : decode cX0_init 10 = .ok (.new 13, 3) := by decide +kernel
theorem dX0_init_13 : decode cX0_init 13 = .ok (.dup, 1) := by decide +kernel
theorem dX0_init_14 : decode cX0_init 14 = .ok (.iload_n 1, 1) := by decide +kernel
theorem dX0_init_15 : decode cX0_init 15 = .ok (.invokespecial 15, 3) := by decide +kernel
theorem dX0_init_18 : decode cX0_init 18 = .ok (.putfield 18, 3) := by decide +kernel
theorem dX0_init_21 : decode cX0_init 21 = .ok (.aload_n 0, 1) := by decide +kernel
theorem dX0_init_22 : decode cX0_init 22 = .ok (.new 13, 3) := by decide +kernel
theorem dX0_init_25 : decode cX0_init 25 = .ok (.dup, 1) := by decide +kernel
theorem dX0_init_26 : decode cX0_init 26 = .ok (.iload_n 1, 1) := by decide +kernel
theorem dX0_init_27 : decode cX0_init 27 = .ok (.invokespecial 15, 3) := by decide +kernel
theorem dX0_init_30 : decode cX0_init 30 = .ok (.putfield 22, 3) := by decide +kernel
theorem dX0_init_33 : decode cX0_init 33 = .ok (.return_, 1) := by decide +kernel
set_option maxRecDepth 20000 in
theorem ggX0_hasOctet_X7_isWithin : GoodIn wsX0_hasOctet wsX7_isWithin := goodIn_r _ [4] (by decide +kernel) (by decide +kernel)
set_option maxRecDepth 20000 in
theorem gX0_hasOctet_X7_isWithin_n25 : GoodIn wsX0_hasOctet (wsX7_isWithin) := ggX0_hasOctet_X7_isWithin
theorem dX0_hasOctet_0 : decode cX0_hasOctet 0 = .ok (.iload_n 1, 1) := by decide +kernel
theorem dX0_hasOctet_1 : decode cX0_hasOctet 1 = .ok (.i2l, 1) := by decide +kernel
theorem dX0_hasOctet_2 : decode cX0_hasOctet 2 = .ok (.lconst 0, 1) := by decide +kernel
theorem dX0_hasOctet_3 : decode cX0_hasOctet 3 = .ok (.aload_n 0, 1) := by decide +kernel
theorem dX0_hasOctet_4 : decode cX0_hasOctet 4 = .ok (.getfield 7, 3) := by decide +kernel
theorem dX0_hasOctet_7 : decode cX0_hasOctet 7 = .ok (.iconst 1, 1) := by decide +kernel
theorem dX0_hasOctet_8 : decode cX0_hasOctet 8 = .ok (.isub, 1) := by decide +kernel
theorem dX0_hasOctet_9 : decode cX0_hasOctet 9 = .ok (.i2l, 1) := by decide +kernel
theorem dX0_hasOctet_10 : decode cX0_hasOctet 10 = .ok (.invokestatic 25, 3) := by decide +kernel
theorem dX0_hasOctet_13 : decode cX0_hasOctet 13 = .ok (.ireturn, 1) := by decide +kernel
set_option maxRecDepth 20000 in
theorem ggX0_repair_X1_isGood : GoodIn wsX0_repair wsX1_isGood := goodIn_r _ [6, 7, 8, 9, 10, 4, 11, 12, 30, 31] (by decide +kernel) (by decide +kernel)
set_option maxRecDepth 20000 in
theorem gX0_repair_X1_isGood_n31 : GoodIn wsX0_repair (wsX1_isGood) := ggX0_repair_X1_isGood
set_option maxRecDepth 20000 in
theorem ggX0_repair_X1_become : GoodIn wsX0_repair wsX1_become := goodIn_r _ [15, 8, 16, 17, 18, 19, 7, 30, 31] (by decide +kernel) (by decide +kernel)
set_option maxRecDepth 20000 in
theorem gX0_repair_X1_become_n35 : GoodIn wsX0_repair (wsX1_become) := ggX0_repair_X1_become
set_option maxRecDepth 20000 in
theorem ggX0_repair_X1_clear : GoodIn wsX0_repair wsX1_clear := goodIn_r _ [22, 8, 7, 23, 24, 25, 26, 9, 10, 4, 11, 12, 30, 31] (by decide +kernel) (by decide +kernel)
set_option maxRecDepth 20000 in
theorem gX0_repair_X1_clear_n39 : GoodIn wsX0_repair (wsX1_clear) := ggX0_repair_X1_clear
theorem dX0_repair_0 : decode cX0_repair 0 = .ok (.aload_n 0, 1) := by decide +kernel
theorem dX0_repair_1 : decode cX0_repair 1 = .ok (.getfield 18, 3) := by decide +kernel
theorem dX0_repair_4 : decode cX0_repair 4 = .ok (.invokevirtual 31, 3) := by decide +kernel
theorem dX0_repair_7 : decode cX0_repair 7 = .ok (.ifCond .eq 16, 3) := by decide +kernel
theorem dX0_repair_10 : decode cX0_repair 10 = .ok (.aload_n 0, 1) := by decide +kernel
theorem dX0_repair_11 : decode cX0_repair 11 = .ok (.getfield 22, 3) := by decide +kernel
theorem dX0_repair_14 : decode cX0_repair 14 = .ok (.aload_n 0, 1) := by decide +kernel
theorem dX0_repair_15 : decode cX0_repair 15 = .ok (.getfield 18, 3) := by decide +kernel
theorem dX0_repair_18 : decode cX0_repair 18 = .ok (.invokevirtual 35, 3) := by decide +kernel
theorem dX0_repair_21 : decode cX0_repair 21 = .ok (.iconst 1, 1) := by decide +kernel
theorem dX0_repair_22 : decode cX0_repair 22 = .ok (.ireturn, 1) := by decide +kernel
theorem dX0_repair_23 : decode cX0_repair 23 = .ok (.aload_n 0, 1) := by decide +kernel
theorem dX0_repair_24 : decode cX0_repair 24 = .ok (.getfield 22, 3) := by decide +kernel
theorem dX0_repair_27 : decode cX0_repair 27 = .ok (.invokevirtual 31, 3) := by decide +kernel
theorem dX0_repair_30 : decode cX0_repair 30 = .ok (.ifCond .eq 16, 3) := by decide +kernel
theorem dX0_repair_33 : decode cX0_repair 33 = .ok (.aload_n 0, 1) := by decide +kernel
theorem dX0_repair_34 : decode cX0_repair 34 = .ok (.getfield 18, 3) := by decide +kernel
theorem dX0_repair_37 : decode cX0_repair 37 = .ok (.aload_n 0, 1) := by decide +kernel
theorem dX0_repair_38 : decode cX0_repair 38 = .ok (.getfield 22, 3) := by decide +kernel
theorem dX0_repair_41 : decode cX0_repair 41 = .ok (.invokevirtual 35, 3) := by decide +kernel
theorem dX0_repair_44 : decode cX0_repair 44 = .ok (.iconst 2, 1) := by decide +kernel
theorem dX0_repair_45 : decode cX0_repair 45 = .ok (.ireturn, 1) := by decide +kernel
theorem dX0_repair_46 : decode cX0_repair 46 = .ok (.aload_n 0, 1) := by decide +kernel
theorem dX0_repair_47 : decode cX0_repair 47 = .ok (.getfield 18, 3) := by decide +kernel
theorem dX0_repair_50 : decode cX0_repair 50 = .ok (.invokevirtual 39, 3) := by decide +kernel
theorem dX0_repair_53 : decode cX0_repair 53 = .ok (.aload_n 0, 1) := by decide +kernel
theorem dX0_repair_54 : decode cX0_repair 54 = .ok (.getfield 22, 3) := by decide +kernel
theorem dX0_repair_57 : decode cX0_repair 57 = .ok (.invokevirtual 39, 3) := by decide +kernel
theorem dX0_repair_60 : decode cX0_repair 60 = .ok (.iconst 0, 1) := by decide +kernel
theorem dX0_repair_61 : decode cX0_repair 61 = .ok (.ireturn, 1) := by decide +kernel
set_option maxRecDepth 20000 in
theorem ggX1_init_X1_sumOf : GoodIn wsX1_init wsX1_sumOf := goodIn_r _ [10, 11] (by decide +kernel) (by decide +kernel)
set_option maxRecDepth 20000 in
theorem gX1_init_X1_sumOf : GoodIn wsX1_init (va_wsS RX1 15 yX1_sumOf wsX1_sumOf) := goodIn_app (goodIn_of _ (by decide +kernel)) ggX1_init_X1_sumOf
theorem dX1_init_0 : decode cX1_init 0 = .ok (.aload_n 0, 1) := by decide +kernel
theorem dX1_init_1 : decode cX1_init 1 = .ok (.invokespecial 3, 3) := by decide +kernel
theorem dX1_init_4 : decode cX1_init 4 = .ok (.aload_n 0, 1) := by decide +kernel
theorem dX1_init_5 : decode cX1_init 5 = .ok (.iload_n 1, 1) := by decide +kernel
theorem dX1_init_6 : decode cX1_init 6 = .ok (.newarray .byte, 2) := by decide +kernel
theorem dX1_init_8 : decode cX1_init 8 = .ok (.putfield 9, 3) := by decide +kernel
theorem dX1_init_11 : decode cX1_init 11 = .ok (.aload_n 0, 1) := by decide +kernel
theorem dX1_init_12 : decode cX1_init 12 = .ok (.aload_n 0, 1) := by decide +kernel
theorem dX1_init_13 : decode cX1_init 13 = .ok (.getfield 9, 3) := by decide +kernel
theorem dX1_init_16 : decode cX1_init 16 = .ok (.invokestatic 15, 3) := by decide +kernel
theorem dX1_init_19 : decode cX1_init 19 = .ok (.putfield 19, 3) := by decide +kernel
theorem dX1_init_22 : decode cX1_init 22 = .ok (.return_, 1) := by decide +kernel
set_option maxRecDepth 20000 in
theorem ggX1_isGood_X1_sumOf : GoodIn wsX1_isGood wsX1_sumOf := goodIn_r _ [6, 7] (by decide +kernel) (by decide +kernel)
set_option maxRecDepth 20000 in
theorem gX1_isGood_X1_sumOf : GoodIn wsX1_isGood (va_wsS RX1 15 yX1_sumOf wsX1_sumOf) := goodIn_app (goodIn_of _ (by decide +kernel)) ggX1_isGood_X1_sumOf
theorem dX1_isGood_0 : decode cX1_isGood 0 = .ok (.aload_n 0, 1) := by decide +kernel
theorem dX1_isGood_1 : decode cX1_isGood 1 = .ok (.getfield 19, 3) := by decide +kernel
theorem dX1_isGood_4 : decode cX1_isGood 4 = .ok (.aload_n 0, 1) := by decide +kernel
theorem dX1_isGood_5 : decode cX1_isGood 5 = .ok (.getfield 9, 3) := by decide +kernel
theorem dX1_isGood_8 : decode cX1_isGood 8 = .ok (.invokestatic 15, 3) := by decide +kernel
theorem dX1_isGood_11 : decode cX1_isGood 11 = .ok (.if_icmp .ne 7, 3) := by decide +kernel
theorem dX1_isGood_14 : decode cX1_isGood 14 = .ok (.iconst 1, 1) := by decide +kernel
theorem dX1_isGood_15 : decode cX1_isGood 15 = .ok (.goto 4, 3) := by decide +kernel
theorem dX1_isGood_18 : decode cX1_isGood 18 = .ok (.iconst 0, 1) := by decide +kernel
theorem dX1_isGood_19 : decode cX1_isGood 19 = .ok (.ireturn, 1) := by decide +kernel
set_option maxRecDepth 20000 in
theorem ggX1_setOctet_X1_sumOf : GoodIn wsX1_setOctet wsX1_sumOf := goodIn_r _ [6, 7] (by decide +kernel) (by decide +kernel)
set_option maxRecDepth 20000 in
theorem gX1_setOctet_X1_sumOf : GoodIn wsX1_setOctet (va_wsS RX1 15 yX1_sumOf wsX1_sumOf) := goodIn_app (goodIn_of _ (by decide +kernel)) ggX1_setOctet_X1_sumOf
theorem dX1_setOctet_0 : decode cX1_setOctet 0 = .ok (.aload_n 0, 1) := by decide +kernel
theorem dX1_setOctet_1 : decode cX1_setOctet 1 = .ok (.getfield 9, 3) := by decide +kernel
theorem dX1_setOctet_4 : decode cX1_setOctet 4 = .ok (.iload_n 1, 1) := by decide +kernel
theorem dX1_setOctet_5 : decode cX1_setOctet 5 = .ok (.iload_n 2, 1) := by decide +kernel
theorem dX1_setOctet_6 : decode cX1_setOctet 6 = .ok (.bastore, 1) := by decide +kernel
theorem dX1_setOctet_7 : decode cX1_setOctet 7 = .ok (.aload_n 0, 1) := by decide +kernel
theorem dX1_setOctet_8 : decode cX1_setOctet 8 = .ok (.aload_n 0, 1) := by decide +kernel
theorem dX1_setOctet_9 : decode cX1_setOctet 9 = .ok (.getfield 9, 3) := by decide +kernel
theorem dX1_setOctet_12 : decode cX1_setOctet 12 = .ok (.invokestatic 15, 3) := by decide +kernel
theorem dX1_setOctet_15 : decode cX1_setOctet 15 = .ok (.putfield 19, 3) := by decide +kernel
theorem dX1_setOctet_18 : decode cX1_setOctet 18 = .ok (.return_, 1) := by decide +kernel
theorem dX1_flip_0 : decode cX1_flip 0 = .ok (.aload_n 0, 1) := by decide +kernel
theorem dX1_flip_1 : decode cX1_flip 1 = .ok (.getfield 9, 3) := by decide +kernel
theorem dX1_flip_4 : decode cX1_flip 4 = .ok (.iload_n 1, 1) := by decide +kernel
theorem dX1_flip_5 : decode cX1_flip 5 = .ok (.aload_n 0, 1) := by decide +kernel
theorem dX1_flip_6 : decode cX1_flip 6 = .ok (.getfield 9, 3) := by decide +kernel
theorem dX1_flip_9 : decode cX1_flip 9 = .ok (.iload_n 1, 1) := by decide +kernel
theorem dX1_flip_10 : decode cX1_flip 10 = .ok (.baload, 1) := by decide +kernel
theorem dX1_flip_11 : decode cX1_flip 11 = .ok (.iload_n 2, 1) := by decide +kernel
theorem dX1_flip_12 : decode cX1_flip 12 = .ok (.ixor, 1) := by decide +kernel
theorem dX1_flip_13 : decode cX1_flip 13 = .ok (.i2b, 1) := by decide +kernel
theorem dX1_flip_14 : decode cX1_flip 14 = .ok (.bastore, 1) := by decide +kernel
theorem dX1_flip_15 : decode cX1_flip 15 = .ok (.aload_n 0, 1) := by decide +kernel
theorem dX1_flip_16 : decode cX1_flip 16 = .ok (.getfield 9, 3) := by decide +kernel
theorem dX1_flip_19 : decode cX1_flip 19 = .ok (.iload_n 1, 1) := by decide +kernel
theorem dX1_flip_20 : decode cX1_flip 20 = .ok (.baload, 1) := by decide +kernel
theorem dX1_flip_21 : decode cX1_flip 21 = .ok (.sipush 255, 3) := by decide +kernel
theorem dX1_flip_24 : decode cX1_flip 24 = .ok (.iand, 1) := by decide +kernel
theorem dX1_flip_25 : decode cX1_flip 25 = .ok (.ireturn, 1) := by decide +kernel
theorem dX1_become_0 : decode cX1_become 0 = .ok (.aload_n 1, 1) := by decide +kernel
theorem dX1_become_1 : decode cX1_become 1 = .ok (.getfield 9, 3) := by decide +kernel
theorem dX1_become_4 : decode cX1_become 4 = .ok (.iconst 0, 1) := by decide +kernel
theorem dX1_become_5 : decode cX1_become 5 = .ok (.aload_n 0, 1) := by decide +kernel
theorem dX1_become_6 : decode cX1_become 6 = .ok (.getfield 9, 3) := by decide +kernel
theorem dX1_become_9 : decode cX1_become 9 = .ok (.iconst 0, 1) := by decide +kernel
theorem dX1_become_10 : decode cX1_become 10 = .ok (.aload_n 0, 1) := by decide +kernel
theorem dX1_become_11 : decode cX1_become 11 = .ok (.getfield 9, 3) := by decide +kernel
theorem dX1_become_14 : decode cX1_become 14 = .ok (.arraylength, 1) := by decide +kernel
theorem dX1_become_15 : decode cX1_become 15 = .ok (.invokestatic 23, 3) := by decide +kernel
theorem dX1_become_18 : decode cX1_become 18 = .ok (.aload_n 0, 1) := by decide +kernel
theorem dX1_become_19 : decode cX1_become 19 = .ok (.aload_n 1, 1) := by decide +kernel
theorem dX1_become_20 : decode cX1_become 20 = .ok (.getfield 19, 3) := by decide +kernel
theorem dX1_become_23 : decode cX1_become 23 = .ok (.putfield 19, 3) := by decide +kernel
theorem dX1_become_26 : decode cX1_become 26 = .ok (.return_, 1) := by decide +kernel
set_option maxRecDepth 20000 in
theorem ggX1_clear_J7_fill_031fb : GoodIn wsX1_clear wsJ7_fill_031fb := goodIn_r _ [6] (by decide +kernel) (by decide +kernel)
set_option maxRecDepth 20000 in
theorem gX1_clear_J7_fill_031fb : GoodIn wsX1_clear (va_wsS RX1 29 yJ7_fill_031fb wsJ7_fill_031fb) := goodIn_app (goodIn_of _ (by decide +kernel)) ggX1_clear_J7_fill_031fb
set_option maxRecDepth 20000 in
theorem ggX1_clear_X1_sumOf : GoodIn wsX1_clear wsX1_sumOf := goodIn_r _ [10, 11] (by decide +kernel) (by decide +kernel)
set_option maxRecDepth 20000 in
theorem gX1_clear_X1_sumOf : GoodIn wsX1_clear (va_wsS RX1 15 yX1_sumOf wsX1_sumOf) := goodIn_app (goodIn_of _ (by decide +kernel)) ggX1_clear_X1_sumOf
theorem dX1_clear_0 : decode cX1_clear 0 = .ok (.aload_n 0, 1) := by decide +kernel
theorem dX1_clear_1 : decode cX1_clear 1 = .ok (.getfield 9, 3) := by decide +kernel
theorem dX1_clear_4 : decode cX1_clear 4 = .ok (.iconst 0, 1) := by decide +kernel
theorem dX1_clear_5 : decode cX1_clear 5 = .ok (.invokestatic 29, 3) := by decide +kernel
theorem dX1_clear_8 : decode cX1_clear 8 = .ok (.aload_n 0, 1) := by decide +kernel
theorem dX1_clear_9 : decode cX1_clear 9 = .ok (.aload_n 0, 1) := by decide +kernel
theorem dX1_clear_10 : decode cX1_clear 10 = .ok (.getfield 9, 3) := by decide +kernel
theorem dX1_clear_13 : decode cX1_clear 13 = .ok (.invokestatic 15, 3) := by decide +kernel
theorem dX1_clear_16 : decode cX1_clear 16 = .ok (.putfield 19, 3) := by decide +kernel
theorem dX1_clear_19 : decode cX1_clear 19 = .ok (.return_, 1) := by decide +kernel
theorem dX1_sumOf_0 : decode cX1_sumOf 0 = .ok (.iconst 1, 1) := by decide +kernel
theorem dX1_sumOf_1 : decode cX1_sumOf 1 = .ok (.istore_n 1, 1) := by decide +kernel
theorem dX1_sumOf_2 : decode cX1_sumOf 2 = .ok (.iconst 0, 1) := by decide +kernel
theorem dX1_sumOf_3 : decode cX1_sumOf 3 = .ok (.istore_n 2, 1) := by decide +kernel
theorem dX1_sumOf_4 : decode cX1_sumOf 4 = .ok (.iload_n 2, 1) := by decide +kernel
theorem dX1_sumOf_5 : decode cX1_sumOf 5 = .ok (.aload_n 0, 1) := by decide +kernel
theorem dX1_sumOf_6 : decode cX1_sumOf 6 = .ok (.arraylength, 1) := by decide +kernel
theorem dX1_sumOf_7 : decode cX1_sumOf 7 = .ok (.if_icmp .ge 31, 3) := by decide +kernel
theorem dX1_sumOf_10 : decode cX1_sumOf 10 = .ok (.iload_n 1, 1) := by decide +kernel
theorem dX1_sumOf_11 : decode cX1_sumOf 11 = .ok (.aload_n 0, 1) := by decide +kernel
theorem dX1_sumOf_12 : decode cX1_sumOf 12 = .ok (.iload_n 2, 1) := by decide +kernel
theorem dX1_sumOf_13 : decode cX1_sumOf 13 = .ok (.baload, 1) := by decide +kernel
theorem dX1_sumOf_14 : decode cX1_sumOf 14 = .ok (.sipush 255, 3) := by decide +kernel
theorem dX1_sumOf_17 : decode cX1_sumOf 17 = .ok (.iand, 1) := by decide +kernel
theorem dX1_sumOf_18 : decode cX1_sumOf 18 = .ok (.ixor, 1) := by decide +kernel
theorem dX1_sumOf_19 : decode cX1_sumOf 19 = .ok (.istore_n 3, 1) := by decide +kernel
theorem dX1_sumOf_20 : decode cX1_sumOf 20 = .ok (.iload_n 3, 1) := by decide +kernel
theorem dX1_sumOf_21 : decode cX1_sumOf 21 = .ok (.iconst 5, 1) := by decide +kernel
theorem dX1_sumOf_22 : decode cX1_sumOf 22 = .ok (.ishl, 1) := by decide +kernel
theorem dX1_sumOf_23 : decode cX1_sumOf 23 = .ok (.iload_n 3, 1) := by decide +kernel
theorem dX1_sumOf_24 : decode cX1_sumOf 24 = .ok (.bipush 27, 2) := by decide +kernel
theorem dX1_sumOf_26 : decode cX1_sumOf 26 = .ok (.iushr, 1) := by decide +kernel
theorem dX1_sumOf_27 : decode cX1_sumOf 27 = .ok (.ior, 1) := by decide +kernel
theorem dX1_sumOf_28 : decode cX1_sumOf 28 = .ok (.ldc 35, 2) := by decide +kernel
theorem dX1_sumOf_30 : decode cX1_sumOf 30 = .ok (.imul, 1) := by decide +kernel
theorem dX1_sumOf_31 : decode cX1_sumOf 31 = .ok (.istore_n 1, 1) := by decide +kernel
theorem dX1_sumOf_32 : decode cX1_sumOf 32 = .ok (.iinc 2 1, 3) := by decide +kernel
theorem dX1_sumOf_35 : decode cX1_sumOf 35 = .ok (.goto (-31), 3) := by decide +kernel
theorem dX1_sumOf_38 : decode cX1_sumOf 38 = .ok (.iload_n 1, 1) := by decide +kernel
theorem dX1_sumOf_39 : decode cX1_sumOf 39 = .ok (.ireturn, 1) := by decide +kernel
theorem dX2_init_0 : decode cX2_init 0 = .ok (.aload_n 0, 1) := by decide +kernel
theorem dX2_init_1 : decode cX2_init 1 = .ok (.invokespecial 3, 3) := by decide +kernel
theorem dX2_init_4 : decode cX2_init 4 = .ok (.aload_n 0, 1) := by decide +kernel
theorem dX2_init_5 : decode cX2_init 5 = .ok (.bipush 31, 2) := by decide +kernel
theorem dX2_init_7 : decode cX2_init 7 = .ok (.newarray .int, 2) := by decide +kernel
theorem dX2_init_9 : decode cX2_init 9 = .ok (.putfield 9, 3) := by decide +kernel
theorem dX2_init_12 : decode cX2_init 12 = .ok (.aload_n 0, 1) := by decide +kernel
theorem dX2_init_13 : decode cX2_init 13 = .ok (.bipush 31, 2) := by decide +kernel
theorem dX2_init_15 : decode cX2_init 15 = .ok (.newarray .int, 2) := by decide +kernel
theorem dX2_init_17 : decode cX2_init 17 = .ok (.putfield 15, 3) := by decide +kernel
theorem dX2_init_20 : decode cX2_init 20 = .ok (.aload_n 0, 1) := by decide +kernel
theorem dX2_init_21 : decode cX2_init 21 = .ok (.bipush 31, 2) := by decide +kernel
theorem dX2_init_23 : decode cX2_init 23 = .ok (.newarray .int, 2) := by decide +kernel
theorem dX2_init_25 : decode cX2_init 25 = .ok (.putfield 18, 3) := by decide +kernel
theorem dX2_init_28 : decode cX2_init 28 = .ok (.return_, 1) := by decide +kernel
theorem dX2_addCall_0 : decode cX2_addCall 0 = .ok (.aload_n 0, 1) := by decide +kernel
theorem dX2_addCall_1 : decode cX2_addCall 1 = .ok (.getfield 15, 3) := by decide +kernel
theorem dX2_addCall_4 : decode cX2_addCall 4 = .ok (.iload_n 1, 1) := by decide +kernel
theorem dX2_addCall_5 : decode cX2_addCall 5 = .ok (.dup2, 1) := by decide +kernel
theorem dX2_addCall_6 : decode cX2_addCall 6 = .ok (.iaload, 1) := by decide +kernel
theorem dX2_addCall_7 : decode cX2_addCall 7 = .ok (.iconst 1, 1) := by decide +kernel
theorem dX2_addCall_8 : decode cX2_addCall 8 = .ok (.iload_n 2, 1) := by decide +kernel
theorem dX2_addCall_9 : decode cX2_addCall 9 = .ok (.ishl, 1) := by decide +kernel
theorem dX2_addCall_10 : decode cX2_addCall 10 = .ok (.ior, 1) := by decide +kernel
theorem dX2_addCall_11 : decode cX2_addCall 11 = .ok (.iastore, 1) := by decide +kernel
theorem dX2_addCall_12 : decode cX2_addCall 12 = .ok (.return_, 1) := by decide +kernel
set_option maxRecDepth 20000 in
theorem ggX2_countCalls_J6_bitCount_0f7a4 : GoodIn wsX2_countCalls wsJ6_bitCount_0f7a4 := goodIn_r _ [5, 6, 7, 8] (by decide +kernel) (by decide +kernel)
set_option maxRecDepth 20000 in
theorem gX2_countCalls_J6_bitCount_0f7a4 : GoodIn wsX2_countCalls (va_wsS RX2 21 yJ6_bitCount_0f7a4 wsJ6_bitCount_0f7a4) := goodIn_app (goodIn_of _ (by decide +kernel)) ggX2_countCalls_J6_bitCount_0f7a4
theorem dX2_countCalls_0 : decode cX2_countCalls 0 = .ok (.aload_n 0, 1) := by decide +kernel
theorem dX2_countCalls_1 : decode cX2_countCalls 1 = .ok (.getfield 15, 3) := by decide +kernel
theorem dX2_countCalls_4 : decode cX2_countCalls 4 = .ok (.iload_n 1, 1) := by decide +kernel
theorem dX2_countCalls_5 : decode cX2_countCalls 5 = .ok (.iaload, 1) := by decide +kernel
theorem dX2_countCalls_6 : decode cX2_countCalls 6 = .ok (.invokestatic 21, 3) := by decide +kernel
theorem dX2_countCalls_9 : decode cX2_countCalls 9 = .ok (.ireturn, 1) := by decide +kernel
set_option maxRecDepth 20000 in
theorem ggX2_depthFrom_X2_contains : GoodIn wsX2_depthFrom wsX2_contains := goodIn_r _ [5] (by decide +kernel) (by decide +kernel)
set_option maxRecDepth 20000 in
theorem gX2_depthFrom_X2_contains : GoodIn wsX2_depthFrom (va_wsS RX2 27 yX2_contains wsX2_contains) := goodIn_app (goodIn_of _ (by decide +kernel)) ggX2_depthFrom_X2_contains
set_option maxRecDepth 20000 in
theorem ggX2_depthFrom_X2_settleMore : GoodIn wsX2_depthFrom wsX2_settleMore := goodIn_r _ [9, 10, 1, 11, 2, 3, 4, 5, 12, 13, 14, 15, 16, 17, 18, 19, 20, 21, 22] (by decide +kernel) (by decide +kernel)
set_option maxRecDepth 20000 in
theorem gX2_depthFrom_X2_settleMore : GoodIn wsX2_depthFrom (wsV RX2 31 RX2 yX2_settleMore wsX2_settleMore) := goodIn_app (goodIn_of _ (by decide +kernel)) ggX2_depthFrom_X2_settleMore
theorem dX2_depthFrom_0 : decode cX2_depthFrom 0 = .ok (.iconst 0, 1) := by decide +kernel
theorem dX2_depthFrom_1 : decode cX2_depthFrom 1 = .ok (.istore_n 2, 1) := by decide +kernel
theorem dX2_depthFrom_2 : decode cX2_depthFrom 2 = .ok (.iconst 0, 1) := by decide +kernel
theorem dX2_depthFrom_3 : decode cX2_depthFrom 3 = .ok (.istore_n 3, 1) := by decide +kernel
theorem dX2_depthFrom_4 : decode cX2_depthFrom 4 = .ok (.iload_n 3, 1) := by decide +kernel
theorem dX2_depthFrom_5 : decode cX2_depthFrom 5 = .ok (.bipush 30, 2) := by decide +kernel
theorem dX2_depthFrom_7 : decode cX2_depthFrom 7 = .ok (.if_icmp .ge 23, 3) := by decide +kernel
theorem dX2_depthFrom_10 : decode cX2_depthFrom 10 = .ok (.iload_n 2, 1) := by decide +kernel
theorem dX2_depthFrom_11 : decode cX2_depthFrom 11 = .ok (.iload_n 1, 1) := by decide +kernel
theorem dX2_depthFrom_12 : decode cX2_depthFrom 12 = .ok (.invokestatic 27, 3) := by decide +kernel
theorem dX2_depthFrom_15 : decode cX2_depthFrom 15 = .ok (.ifCond .ne 15, 3) := by decide +kernel
theorem dX2_depthFrom_18 : decode cX2_depthFrom 18 = .ok (.aload_n 0, 1) := by decide +kernel
theorem dX2_depthFrom_19 : decode cX2_depthFrom 19 = .ok (.iload_n 2, 1) := by decide +kernel
theorem dX2_depthFrom_20 : decode cX2_depthFrom 20 = .ok (.invokevirtual 31, 3) := by decide +kernel
theorem dX2_depthFrom_23 : decode cX2_depthFrom 23 = .ok (.istore_n 2, 1) := by decide +kernel
theorem dX2_depthFrom_24 : decode cX2_depthFrom 24 = .ok (.iinc 3 1, 3) := by decide +kernel
theorem dX2_depthFrom_27 : decode cX2_depthFrom 27 = .ok (.goto (-23), 3) := by decide +kernel
theorem dX2_depthFrom_30 : decode cX2_depthFrom 30 = .ok (.iload_n 2, 1) := by decide +kernel
theorem dX2_depthFrom_31 : decode cX2_depthFrom 31 = .ok (.iload_n 1, 1) := by decide +kernel
theorem dX2_depthFrom_32 : decode cX2_depthFrom 32 = .ok (.invokestatic 27, 3) := by decide +kernel
theorem dX2_depthFrom_35 : decode cX2_depthFrom 35 = .ok (.ifCond .eq 12, 3) := by decide +kernel
theorem dX2_depthFrom_38 : decode cX2_depthFrom 38 = .ok (.aload_n 0, 1) := by decide +kernel
theorem dX2_depthFrom_39 : decode cX2_depthFrom 39 = .ok (.getfield 18, 3) := by decide +kernel
theorem dX2_depthFrom_42 : decode cX2_depthFrom 42 = .ok (.iload_n 1, 1) := by decide +kernel
theorem dX2_depthFrom_43 : decode cX2_depthFrom 43 = .ok (.iaload, 1) := by decide +kernel
theorem dX2_depthFrom_44 : decode cX2_depthFrom 44 = .ok (.goto 4, 3) := by decide +kernel
theorem dX2_depthFrom_47 : decode cX2_depthFrom 47 = .ok (.iconst (-1), 1) := by decide +kernel
theorem dX2_depthFrom_48 : decode cX2_depthFrom 48 = .ok (.ireturn, 1) := by decide +kernel
set_option maxRecDepth 20000 in
theorem ggX2_settleMore_X2_contains : GoodIn wsX2_settleMore wsX2_contains := goodIn_r _ [7] (by decide +kernel) (by decide +kernel)
set_option maxRecDepth 20000 in
theorem gX2_settleMore_X2_contains : GoodIn wsX2_settleMore (va_wsS RX2 27 yX2_contains wsX2_contains) := goodIn_app (goodIn_of _ (by decide +kernel)) ggX2_settleMore_X2_contains
set_option maxRecDepth 20000 in
theorem ggX2_settleMore_X2_deepestCalled : GoodIn wsX2_settleMore wsX2_deepestCalled := goodIn_r _ [11, 1, 2, 12, 13, 14, 15, 4, 5, 6, 7, 16, 17, 18] (by decide +kernel) (by decide +kernel)
set_option maxRecDepth 20000 in
theorem gX2_settleMore_X2_deepestCalled : GoodIn wsX2_settleMore (wsV RX2 34 RX2 yX2_deepestCalled wsX2_deepestCalled) := goodIn_app (goodIn_of _ (by decide +kernel)) ggX2_settleMore_X2_deepestCalled
theorem dX2_settleMore_0 : decode cX2_settleMore 0 = .ok (.iload_n 1, 1) := by decide +kernel
theorem dX2_settleMore_1 : decode cX2_settleMore 1 = .ok (.istore_n 2, 1) := by decide +kernel
theorem dX2_settleMore_2 : decode cX2_settleMore 2 = .ok (.iconst 1, 1) := by decide +kernel
theorem dX2_settleMore_3 : decode cX2_settleMore 3 = .ok (.istore_n 3, 1) := by decide +kernel
theorem dX2_settleMore_4 : decode cX2_settleMore 4 = .ok (.iload_n 3, 1) := by decide +kernel
theorem dX2_settleMore_5 : decode cX2_settleMore 5 = .ok (.bipush 30, 2) := by decide +kernel
theorem dX2_settleMore_7 : decode cX2_settleMore 7 = .ok (.if_icmp .gt 54, 3) := by decide +kernel
theorem dX2_settleMore_10 : decode cX2_settleMore 10 = .ok (.iload_n 2, 1) := by decide +kernel
theorem dX2_settleMore_11 : decode cX2_settleMore 11 = .ok (.iload_n 3, 1) := by decide +kernel
theorem dX2_settleMore_12 : decode cX2_settleMore 12 = .ok (.invokestatic 27, 3) := by decide +kernel
theorem dX2_settleMore_15 : decode cX2_settleMore 15 = .ok (.ifCond .ne 40, 3) := by decide +kernel
theorem dX2_settleMore_18 : decode cX2_settleMore 18 = .ok (.aload_n 0, 1) := by decide +kernel
theorem dX2_settleMore_19 : decode cX2_settleMore 19 = .ok (.getfield 15, 3) := by decide +kernel
theorem dX2_settleMore_22 : decode cX2_settleMore 22 = .ok (.iload_n 3, 1) := by decide +kernel
theorem dX2_settleMore_23 : decode cX2_settleMore 23 = .ok (.iaload, 1) := by decide +kernel
theorem dX2_settleMore_24 : decode cX2_settleMore 24 = .ok (.iload_n 2, 1) := by decide +kernel
theorem dX2_settleMore_25 : decode cX2_settleMore 25 = .ok (.iconst (-1), 1) := by decide +kernel
theorem dX2_settleMore_26 : decode cX2_settleMore 26 = .ok (.ixor, 1) := by decide +kernel
theorem dX2_settleMore_27 : decode cX2_settleMore 27 = .ok (.iand, 1) := by decide +kernel
theorem dX2_settleMore_28 : decode cX2_settleMore 28 = .ok (.ifCond .ne 27, 3) := by decide +kernel
theorem dX2_settleMore_31 : decode cX2_settleMore 31 = .ok (.aload_n 0, 1) := by decide +kernel
theorem dX2_settleMore_32 : decode cX2_settleMore 32 = .ok (.getfield 18, 3) := by decide +kernel
theorem dX2_settleMore_35 : decode cX2_settleMore 35 = .ok (.iload_n 3, 1) := by decide +kernel
theorem dX2_settleMore_36 : decode cX2_settleMore 36 = .ok (.aload_n 0, 1) := by decide +kernel
theorem dX2_settleMore_37 : decode cX2_settleMore 37 = .ok (.getfield 9, 3) := by decide +kernel
theorem dX2_settleMore_40 : decode cX2_settleMore 40 = .ok (.iload_n 3, 1) := by decide +kernel
theorem dX2_settleMore_41 : decode cX2_settleMore 41 = .ok (.iaload, 1) := by decide +kernel
theorem dX2_settleMore_42 : decode cX2_settleMore 42 = .ok (.aload_n 0, 1) := by decide +kernel
theorem dX2_settleMore_43 : decode cX2_settleMore 43 = .ok (.iload_n 3, 1) := by decide +kernel
theorem dX2_settleMore_44 : decode cX2_settleMore 44 = .ok (.invokevirtual 34, 3) := by decide +kernel
theorem dX2_settleMore_47 : decode cX2_settleMore 47 = .ok (.iadd, 1) := by decide +kernel
theorem dX2_settleMore_48 : decode cX2_settleMore 48 = .ok (.iastore, 1) := by decide +kernel
theorem dX2_settleMore_49 : decode cX2_settleMore 49 = .ok (.iload_n 2, 1) := by decide +kernel
theorem dX2_settleMore_50 : decode cX2_settleMore 50 = .ok (.iconst 1, 1) := by decide +kernel
theorem dX2_settleMore_51 : decode cX2_settleMore 51 = .ok (.iload_n 3, 1) := by decide +kernel
theorem dX2_settleMore_52 : decode cX2_settleMore 52 = .ok (.ishl, 1) := by decide +kernel
theorem dX2_settleMore_53 : decode cX2_settleMore 53 = .ok (.ior, 1) := by decide +kernel
theorem dX2_settleMore_54 : decode cX2_settleMore 54 = .ok (.istore_n 2, 1) := by decide +kernel
theorem dX2_settleMore_55 : decode cX2_settleMore 55 = .ok (.iinc 3 1, 3) := by decide +kernel
theorem dX2_settleMore_58 : decode cX2_settleMore 58 = .ok (.goto (-54), 3) := by decide +kernel
theorem dX2_settleMore_61 : decode cX2_settleMore 61 = .ok (.iload_n 2, 1) := by decide +kernel
theorem dX2_settleMore_62 : decode cX2_settleMore 62 = .ok (.ireturn, 1) := by decide +kernel
set_option maxRecDepth 20000 in
theorem ggX2_deepestCalled_X2_contains : GoodIn wsX2_deepestCalled wsX2_contains := goodIn_r _ [10] (by decide +kernel) (by decide +kernel)
set_option maxRecDepth 20000 in
theorem gX2_deepestCalled_X2_contains : GoodIn wsX2_deepestCalled (va_wsS RX2 27 yX2_contains wsX2_contains) := goodIn_app (goodIn_of _ (by decide +kernel)) ggX2_deepestCalled_X2_contains
theorem dX2_deepestCalled_0 : decode cX2_deepestCalled 0 = .ok (.iconst 0, 1) := by decide +kernel
theorem dX2_deepestCalled_1 : decode cX2_deepestCalled 1 = .ok (.istore_n 2, 1) := by decide +kernel
theorem dX2_deepestCalled_2 : decode cX2_deepestCalled 2 = .ok (.iconst 1, 1) := by decide +kernel
theorem dX2_deepestCalled_3 : decode cX2_deepestCalled 3 = .ok (.istore_n 3, 1) := by decide +kernel
theorem dX2_deepestCalled_4 : decode cX2_deepestCalled 4 = .ok (.iload_n 3, 1) := by decide +kernel
theorem dX2_deepestCalled_5 : decode cX2_deepestCalled 5 = .ok (.bipush 30, 2) := by decide +kernel
theorem dX2_deepestCalled_7 : decode cX2_deepestCalled 7 = .ok (.if_icmp .gt 33, 3) := by decide +kernel
theorem dX2_deepestCalled_10 : decode cX2_deepestCalled 10 = .ok (.aload_n 0, 1) := by decide +kernel
theorem dX2_deepestCalled_11 : decode cX2_deepestCalled 11 = .ok (.getfield 15, 3) := by decide +kernel
theorem dX2_deepestCalled_14 : decode cX2_deepestCalled 14 = .ok (.iload_n 1, 1) := by decide +kernel
theorem dX2_deepestCalled_15 : decode cX2_deepestCalled 15 = .ok (.iaload, 1) := by decide +kernel
theorem dX2_deepestCalled_16 : decode cX2_deepestCalled 16 = .ok (.iload_n 3, 1) := by decide +kernel
theorem dX2_deepestCalled_17 : decode cX2_deepestCalled 17 = .ok (.invokestatic 27, 3) := by decide +kernel
theorem dX2_deepestCalled_20 : decode cX2_deepestCalled 20 = .ok (.ifCond .eq 14, 3) := by decide +kernel
theorem dX2_deepestCalled_23 : decode cX2_deepestCalled 23 = .ok (.iload_n 2, 1) := by decide +kernel
theorem dX2_deepestCalled_24 : decode cX2_deepestCalled 24 = .ok (.aload_n 0, 1) := by decide +kernel
theorem dX2_deepestCalled_25 : decode cX2_deepestCalled 25 = .ok (.getfield 18, 3) := by decide +kernel
theorem dX2_deepestCalled_28 : decode cX2_deepestCalled 28 = .ok (.iload_n 3, 1) := by decide +kernel
theorem dX2_deepestCalled_29 : decode cX2_deepestCalled 29 = .ok (.iaload, 1) := by decide +kernel
theorem dX2_deepestCalled_30 : decode cX2_deepestCalled 30 = .ok (.invokestatic 37, 3) := by decide +kernel
theorem dX2_deepestCalled_33 : decode cX2_deepestCalled 33 = .ok (.istore_n 2, 1) := by decide +kernel
theorem dX2_deepestCalled_34 : decode cX2_deepestCalled 34 = .ok (.iinc 3 1, 3) := by decide +kernel
theorem dX2_deepestCalled_37 : decode cX2_deepestCalled 37 = .ok (.goto (-33), 3) := by decide +kernel
theorem dX2_deepestCalled_40 : decode cX2_deepestCalled 40 = .ok (.iload_n 2, 1) := by decide +kernel
theorem dX2_deepestCalled_41 : decode cX2_deepestCalled 41 = .ok (.ireturn, 1) := by decide +kernel
theorem dX2_contains_0 : decode cX2_contains 0 = .ok (.iload_n 0, 1) := by decide +kernel
theorem dX2_contains_1 : decode cX2_contains 1 = .ok (.iload_n 1, 1) := by decide +kernel
theorem dX2_contains_2 : decode cX2_contains 2 = .ok (.ishr, 1) := by decide +kernel
theorem dX2_contains_3 : decode cX2_contains 3 = .ok (.iconst 1, 1) := by decide +kernel
theorem dX2_contains_4 : decode cX2_contains 4 = .ok (.iand, 1) := by decide +kernel
theorem dX2_contains_5 : decode cX2_contains 5 = .ok (.iconst 1, 1) := by decide +kernel
theorem dX2_contains_6 : decode cX2_contains 6 = .ok (.if_icmp .ne 7, 3) := by decide +kernel
theorem dX2_contains_9 : decode cX2_contains 9 = .ok (.iconst 1, 1) := by decide +kernel
theorem dX2_contains_10 : decode cX2_contains 10 = .ok (.goto 4, 3) := by decide +kernel
theorem dX2_contains_13 : decode cX2_contains 13 = .ok (.iconst 0, 1) := by decide +kernel
theorem dX2_contains_14 : decode cX2_contains 14 = .ok (.ireturn, 1) := by decide +kernel
theorem dX3_init_0 : decode cX3_init 0 = .ok (.aload_n 0, 1) := by decide +kernel
theorem dX3_init_1 : decode cX3_init 1 = .ok (.invokespecial 3, 3) := by decide +kernel
theorem dX3_init_4 : decode cX3_init 4 = .ok (.aload_n 0, 1) := by decide +kernel
theorem dX3_init_5 : decode cX3_init 5 = .ok (.bipush 40, 2) := by decide +kernel
theorem dX3_init_7 : decode cX3_init 7 = .ok (.newarray .int, 2) := by decide +kernel
theorem dX3_init_9 : decode cX3_init 9 = .ok (.putfield 9, 3) := by decide +kernel
theorem dX3_init_12 : decode cX3_init 12 = .ok (.aload_n 0, 1) := by decide +kernel
theorem dX3_init_13 : decode cX3_init 13 = .ok (.bipush 50, 2) := by decide +kernel
theorem dX3_init_15 : decode cX3_init 15 = .ok (.bipush 40, 2) := by decide +kernel
theorem dX3_init_17 : decode cX3_init 17 = .ok (.multianewarray 15 2, 4) := by decide +kernel
theorem dX3_init_21 : decode cX3_init 21 = .ok (.putfield 17, 3) := by decide +kernel
theorem dX3_init_24 : decode cX3_init 24 = .ok (.aload_n 0, 1) := by decide +kernel
theorem dX3_init_25 : decode cX3_init 25 = .ok (.bipush 50, 2) := by decide +kernel
theorem dX3_init_27 : decode cX3_init 27 = .ok (.newarray .int, 2) := by decide +kernel
theorem dX3_init_29 : decode cX3_init 29 = .ok (.putfield 20, 3) := by decide +kernel
theorem dX3_init_32 : decode cX3_init 32 = .ok (.return_, 1) := by decide +kernel
theorem dX3_add_0 : decode cX3_add 0 = .ok (.aload_n 1, 1) := by decide +kernel
theorem dX3_add_1 : decode cX3_add 1 = .ok (.iconst 0, 1) := by decide +kernel
theorem dX3_add_2 : decode cX3_add 2 = .ok (.aload_n 0, 1) := by decide +kernel
theorem dX3_add_3 : decode cX3_add 3 = .ok (.getfield 9, 3) := by decide +kernel
theorem dX3_add_6 : decode cX3_add 6 = .ok (.iconst 0, 1) := by decide +kernel
theorem dX3_add_7 : decode cX3_add 7 = .ok (.iload_n 2, 1) := by decide +kernel
theorem dX3_add_8 : decode cX3_add 8 = .ok (.invokestatic 23, 3) := by decide +kernel
theorem dX3_add_11 : decode cX3_add 11 = .ok (.aload_n 0, 1) := by decide +kernel
theorem dX3_add_12 : decode cX3_add 12 = .ok (.iload_n 2, 1) := by decide +kernel
theorem dX3_add_13 : decode cX3_add 13 = .ok (.putfield 29, 3) := by decide +kernel
theorem dX3_add_16 : decode cX3_add 16 = .ok (.aload_n 0, 1) := by decide +kernel
theorem dX3_add_17 : decode cX3_add 17 = .ok (.getfield 33, 3) := by decide +kernel
theorem dX3_add_20 : decode cX3_add 20 = .ok (.bipush 50, 2) := by decide +kernel
theorem dX3_add_22 : decode cX3_add 22 = .ok (.if_icmp .ge 39, 3) := by decide +kernel
theorem dX3_add_25 : decode cX3_add 25 = .ok (.aload_n 1, 1) := by decide +kernel
theorem dX3_add_26 : decode cX3_add 26 = .ok (.iconst 0, 1) := by decide +kernel
theorem dX3_add_27 : decode cX3_add 27 = .ok (.aload_n 0, 1) := by decide +kernel
theorem dX3_add_28 : decode cX3_add 28 = .ok (.getfield 17, 3) := by decide +kernel
theorem dX3_add_31 : decode cX3_add 31 = .ok (.aload_n 0, 1) := by decide +kernel
theorem dX3_add_32 : decode cX3_add 32 = .ok (.getfield 33, 3) := by decide +kernel
theorem dX3_add_35 : decode cX3_add 35 = .ok (.aaload, 1) := by decide +kernel
theorem dX3_add_36 : decode cX3_add 36 = .ok (.iconst 0, 1) := by decide +kernel
theorem dX3_add_37 : decode cX3_add 37 = .ok (.iload_n 2, 1) := by decide +kernel
theorem dX3_add_38 : decode cX3_add 38 = .ok (.invokestatic 23, 3) := by decide +kernel
theorem dX3_add_41 : decode cX3_add 41 = .ok (.aload_n 0, 1) := by decide +kernel
theorem dX3_add_42 : decode cX3_add 42 = .ok (.getfield 20, 3) := by decide +kernel
theorem dX3_add_45 : decode cX3_add 45 = .ok (.aload_n 0, 1) := by decide +kernel
theorem dX3_add_46 : decode cX3_add 46 = .ok (.getfield 33, 3) := by decide +kernel
theorem dX3_add_49 : decode cX3_add 49 = .ok (.iload_n 2, 1) := by decide +kernel
theorem dX3_add_50 : decode cX3_add 50 = .ok (.iastore, 1) := by decide +kernel
theorem dX3_add_51 : decode cX3_add 51 = .ok (.aload_n 0, 1) := by decide +kernel
theorem dX3_add_52 : decode cX3_add 52 = .ok (.dup, 1) := by decide +kernel
theorem dX3_add_53 : decode cX3_add 53 = .ok (.getfield 33, 3) := by decide +kernel
theorem dX3_add_56 : decode cX3_add 56 = .ok (.iconst 1, 1) := by decide +kernel
theorem dX3_add_57 : decode cX3_add 57 = .ok (.iadd, 1) := by decide +kernel
theorem dX3_add_58 : decode cX3_add 58 = .ok (.putfield 33, 3) := by decide +kernel
theorem dX3_add_61 : decode cX3_add 61 = .ok (.return_, 1) := by decide +kernel
theorem dX3_countMovedSince_0 : decode cX3_countMovedSince 0 = .ok (.iconst 0, 1) := by decide +kernel
theorem dX3_countMovedSince_1 : decode cX3_countMovedSince 1 = .ok (.istore_n 2, 1) := by decide +kernel
theorem dX3_countMovedSince_2 : decode cX3_countMovedSince 2 = .ok (.iconst 0, 1) := by decide +kernel
theorem dX3_countMovedSince_3 : decode cX3_countMovedSince 3 = .ok (.istore_n 3, 1) := by decide +kernel
theorem dX3_countMovedSince_4 : decode cX3_countMovedSince 4 = .ok (.iload_n 3, 1) := by decide +kernel
theorem dX3_countMovedSince_5 : decode cX3_countMovedSince 5 = .ok (.aload_n 0, 1) := by decide +kernel
theorem dX3_countMovedSince_6 : decode cX3_countMovedSince 6 = .ok (.getfield 20, 3) := by decide +kernel
theorem dX3_countMovedSince_9 : decode cX3_countMovedSince 9 = .ok (.iload_n 1, 1) := by decide +kernel
theorem dX3_countMovedSince_10 : decode cX3_countMovedSince 10 = .ok (.iaload, 1) := by decide +kernel
theorem dX3_countMovedSince_11 : decode cX3_countMovedSince 11 = .ok (.if_icmp .ge 29, 3) := by decide +kernel
theorem dX3_countMovedSince_14 : decode cX3_countMovedSince 14 = .ok (.aload_n 0, 1) := by decide +kernel
theorem dX3_countMovedSince_15 : decode cX3_countMovedSince 15 = .ok (.getfield 17, 3) := by decide +kernel
theorem dX3_countMovedSince_18 : decode cX3_countMovedSince 18 = .ok (.iload_n 1, 1) := by decide +kernel
theorem dX3_countMovedSince_19 : decode cX3_countMovedSince 19 = .ok (.aaload, 1) := by decide +kernel
theorem dX3_countMovedSince_20 : decode cX3_countMovedSince 20 = .ok (.iload_n 3, 1) := by decide +kernel
theorem dX3_countMovedSince_21 : decode cX3_countMovedSince 21 = .ok (.iaload, 1) := by decide +kernel
theorem dX3_countMovedSince_22 : decode cX3_countMovedSince 22 = .ok (.aload_n 0, 1) := by decide +kernel
theorem dX3_countMovedSince_23 : decode cX3_countMovedSince 23 = .ok (.getfield 9, 3) := by decide +kernel
theorem dX3_countMovedSince_26 : decode cX3_countMovedSince 26 = .ok (.iload_n 3, 1) := by decide +kernel
theorem dX3_countMovedSince_27 : decode cX3_countMovedSince 27 = .ok (.iaload, 1) := by decide +kernel
theorem dX3_countMovedSince_28 : decode cX3_countMovedSince 28 = .ok (.if_icmp .eq 6, 3) := by decide +kernel
theorem dX3_countMovedSince_31 : decode cX3_countMovedSince 31 = .ok (.iinc 2 1, 3) := by decide +kernel
theorem dX3_countMovedSince_34 : decode cX3_countMovedSince 34 = .ok (.iinc 3 1, 3) := by decide +kernel
theorem dX3_countMovedSince_37 : decode cX3_countMovedSince 37 = .ok (.goto (-33), 3) := by decide +kernel
theorem dX3_countMovedSince_40 : decode cX3_countMovedSince 40 = .ok (.iload_n 2, 1) := by decide +kernel
theorem dX3_countMovedSince_41 : decode cX3_countMovedSince 41 = .ok (.ireturn, 1) := by decide +kernel
theorem dX4_init_0 : decode cX4_init 0 = .ok (.aload_n 0, 1) := by decide +kernel
theorem dX4_init_1 : decode cX4_init 1 = .ok (.invokespecial 3, 3) := by decide +kernel
theorem dX4_init_4 : decode cX4_init 4 = .ok (.aload_n 0, 1) := by decide +kernel
theorem dX4_init_5 : decode cX4_init 5 = .ok (.bipush 16, 2) := by decide +kernel
theorem dX4_init_7 : decode cX4_init 7 = .ok (.newarray .int, 2) := by decide +kernel
theorem dX4_init_9 : decode cX4_init 9 = .ok (.putfield 9, 3) := by decide +kernel
theorem dX4_init_12 : decode cX4_init 12 = .ok (.aload_n 0, 1) := by decide +kernel
theorem dX4_init_13 : decode cX4_init 13 = .ok (.bipush 16, 2) := by decide +kernel
theorem dX4_init_15 : decode cX4_init 15 = .ok (.newarray .int, 2) := by decide +kernel
theorem dX4_init_17 : decode cX4_init 17 = .ok (.putfield 15, 3) := by decide +kernel
theorem dX4_init_20 : decode cX4_init 20 = .ok (.aload_n 0, 1) := by decide +kernel
theorem dX4_init_21 : decode cX4_init 21 = .ok (.bipush 16, 2) := by decide +kernel
theorem dX4_init_23 : decode cX4_init 23 = .ok (.newarray .int, 2) := by decide +kernel
theorem dX4_init_25 : decode cX4_init 25 = .ok (.putfield 18, 3) := by decide +kernel
theorem dX4_init_28 : decode cX4_init 28 = .ok (.return_, 1) := by decide +kernel
theorem dX4_overlap_0 : decode cX4_overlap 0 = .ok (.iconst 0, 1) := by decide +kernel
theorem dX4_overlap_1 : decode cX4_overlap 1 = .ok (.istore_n 3, 1) := by decide +kernel
theorem dX4_overlap_2 : decode cX4_overlap 2 = .ok (.iload_n 3, 1) := by decide +kernel
theorem dX4_overlap_3 : decode cX4_overlap 3 = .ok (.aload_n 0, 1) := by decide +kernel
theorem dX4_overlap_4 : decode cX4_overlap 4 = .ok (.getfield 21, 3) := by decide +kernel
theorem dX4_overlap_7 : decode cX4_overlap 7 = .ok (.if_icmp .ge 31, 3) := by decide +kernel
theorem dX4_overlap_10 : decode cX4_overlap 10 = .ok (.iload_n 1, 1) := by decide +kernel
theorem dX4_overlap_11 : decode cX4_overlap 11 = .ok (.aload_n 0, 1) := by decide +kernel
theorem dX4_overlap_12 : decode cX4_overlap 12 = .ok (.getfield 15, 3) := by decide +kernel
theorem dX4_overlap_15 : decode cX4_overlap 15 = .ok (.iload_n 3, 1) := by decide +kernel
theorem dX4_overlap_16 : decode cX4_overlap 16 = .ok (.iaload, 1) := by decide +kernel
theorem dX4_overlap_17 : decode cX4_overlap 17 = .ok (.if_icmp .ge 15, 3) := by decide +kernel
theorem dX4_overlap_20 : decode cX4_overlap 20 = .ok (.aload_n 0, 1) := by decide +kernel
theorem dX4_overlap_21 : decode cX4_overlap 21 = .ok (.getfield 9, 3) := by decide +kernel
theorem dX4_overlap_24 : decode cX4_overlap 24 = .ok (.iload_n 3, 1) := by decide +kernel
theorem dX4_overlap_25 : decode cX4_overlap 25 = .ok (.iaload, 1) := by decide +kernel
theorem dX4_overlap_26 : decode cX4_overlap 26 = .ok (.iload_n 2, 1) := by decide +kernel
theorem dX4_overlap_27 : decode cX4_overlap 27 = .ok (.if_icmp .ge 5, 3) := by decide +kernel
theorem dX4_overlap_30 : decode cX4_overlap 30 = .ok (.iconst 1, 1) := by decide +kernel
theorem dX4_overlap_31 : decode cX4_overlap 31 = .ok (.ireturn, 1) := by decide +kernel
theorem dX4_overlap_32 : decode cX4_overlap 32 = .ok (.iinc 3 1, 3) := by decide +kernel
theorem dX4_overlap_35 : decode cX4_overlap 35 = .ok (.goto (-33), 3) := by decide +kernel
theorem dX4_overlap_38 : decode cX4_overlap 38 = .ok (.iconst 0, 1) := by decide +kernel
theorem dX4_overlap_39 : decode cX4_overlap 39 = .ok (.ireturn, 1) := by decide +kernel
theorem dX4_allow_0 : decode cX4_allow 0 = .ok (.aload_n 0, 1) := by decide +kernel
theorem dX4_allow_1 : decode cX4_allow 1 = .ok (.getfield 18, 3) := by decide +kernel
theorem dX4_allow_4 : decode cX4_allow 4 = .ok (.iload_n 1, 1) := by decide +kernel
theorem dX4_allow_5 : decode cX4_allow 5 = .ok (.iaload, 1) := by decide +kernel
theorem dX4_allow_6 : decode cX4_allow 6 = .ok (.iload_n 2, 1) := by decide +kernel
theorem dX4_allow_7 : decode cX4_allow 7 = .ok (.iand, 1) := by decide +kernel
theorem dX4_allow_8 : decode cX4_allow 8 = .ok (.iload_n 2, 1) := by decide +kernel
theorem dX4_allow_9 : decode cX4_allow 9 = .ok (.if_icmp .ne 7, 3) := by decide +kernel
theorem dX4_allow_12 : decode cX4_allow 12 = .ok (.iconst 1, 1) := by decide +kernel
theorem dX4_allow_13 : decode cX4_allow 13 = .ok (.goto 4, 3) := by decide +kernel
theorem dX4_allow_16 : decode cX4_allow 16 = .ok (.iconst 0, 1) := by decide +kernel
theorem dX4_allow_17 : decode cX4_allow 17 = .ok (.ireturn, 1) := by decide +kernel
theorem dX4_add_0 : decode cX4_add 0 = .ok (.aload_n 0, 1) := by decide +kernel
theorem dX4_add_1 : decode cX4_add 1 = .ok (.getfield 21, 3) := by decide +kernel
theorem dX4_add_4 : decode cX4_add 4 = .ok (.bipush 16, 2) := by decide +kernel
theorem dX4_add_6 : decode cX4_add 6 = .ok (.if_icmp .lt 6, 3) := by decide +kernel
theorem dX4_add_9 : decode cX4_add 9 = .ok (.bipush (-4), 2) := by decide +kernel
theorem dX4_add_11 : decode cX4_add 11 = .ok (.ireturn, 1) := by decide +kernel
theorem dX4_add_12 : decode cX4_add 12 = .ok (.aload_n 0, 1) := by decide +kernel
theorem dX4_add_13 : decode cX4_add 13 = .ok (.getfield 9, 3) := by decide +kernel
theorem dX4_add_16 : decode cX4_add 16 = .ok (.aload_n 0, 1) := by decide +kernel
theorem dX4_add_17 : decode cX4_add 17 = .ok (.getfield 21, 3) := by decide +kernel
theorem dX4_add_20 : decode cX4_add 20 = .ok (.iload_n 1, 1) := by decide +kernel
theorem dX4_add_21 : decode cX4_add 21 = .ok (.iastore, 1) := by decide +kernel
theorem dX4_add_22 : decode cX4_add 22 = .ok (.aload_n 0, 1) := by decide +kernel
theorem dX4_add_23 : decode cX4_add 23 = .ok (.getfield 15, 3) := by decide +kernel
theorem dX4_add_26 : decode cX4_add 26 = .ok (.aload_n 0, 1) := by decide +kernel
theorem dX4_add_27 : decode cX4_add 27 = .ok (.getfield 21, 3) := by decide +kernel
theorem dX4_add_30 : decode cX4_add 30 = .ok (.iload_n 2, 1) := by decide +kernel
theorem dX4_add_31 : decode cX4_add 31 = .ok (.iastore, 1) := by decide +kernel
theorem dX4_add_32 : decode cX4_add 32 = .ok (.aload_n 0, 1) := by decide +kernel
theorem dX4_add_33 : decode cX4_add 33 = .ok (.getfield 18, 3) := by decide +kernel
theorem dX4_add_36 : decode cX4_add 36 = .ok (.aload_n 0, 1) := by decide +kernel
theorem dX4_add_37 : decode cX4_add 37 = .ok (.getfield 21, 3) := by decide +kernel
theorem dX4_add_40 : decode cX4_add 40 = .ok (.iload_n 3, 1) := by decide +kernel
theorem dX4_add_41 : decode cX4_add 41 = .ok (.iastore, 1) := by decide +kernel
theorem dX4_add_42 : decode cX4_add 42 = .ok (.aload_n 0, 1) := by decide +kernel
theorem dX4_add_43 : decode cX4_add 43 = .ok (.dup, 1) := by decide +kernel
theorem dX4_add_44 : decode cX4_add 44 = .ok (.getfield 21, 3) := by decide +kernel
theorem dX4_add_47 : decode cX4_add 47 = .ok (.iconst 1, 1) := by decide +kernel
theorem dX4_add_48 : decode cX4_add 48 = .ok (.iadd, 1) := by decide +kernel
theorem dX4_add_49 : decode cX4_add 49 = .ok (.putfield 21, 3) := by decide +kernel
theorem dX4_add_52 : decode cX4_add 52 = .ok (.aload_n 0, 1) := by decide +kernel
theorem dX4_add_53 : decode cX4_add 53 = .ok (.getfield 21, 3) := by decide +kernel
theorem dX4_add_56 : decode cX4_add 56 = .ok (.ireturn, 1) := by decide +kernel
theorem dX5_init_0 : decode cX5_init 0 = .ok (.aload_n 0, 1) := by decide +kernel
theorem dX5_init_1 : decode cX5_init 1 = .ok (.invokespecial 3, 3) := by decide +kernel
theorem dX5_init_4 : decode cX5_init 4 = .ok (.aload_n 0, 1) := by decide +kernel
theorem dX5_init_5 : decode cX5_init 5 = .ok (.bipush 40, 2) := by decide +kernel
theorem dX5_init_7 : decode cX5_init 7 = .ok (.newarray .int, 2) := by decide +kernel
theorem dX5_init_9 : decode cX5_init 9 = .ok (.putfield 9, 3) := by decide +kernel
theorem dX5_init_12 : decode cX5_init 12 = .ok (.aload_n 0, 1) := by decide +kernel
theorem dX5_init_13 : decode cX5_init 13 = .ok (.bipush 40, 2) := by decide +kernel
theorem dX5_init_15 : decode cX5_init 15 = .ok (.newarray .int, 2) := by decide +kernel
theorem dX5_init_17 : decode cX5_init 17 = .ok (.putfield 15, 3) := by decide +kernel
theorem dX5_init_20 : decode cX5_init 20 = .ok (.aload_n 0, 1) := by decide +kernel
theorem dX5_init_21 : decode cX5_init 21 = .ok (.bipush 40, 2) := by decide +kernel
theorem dX5_init_23 : decode cX5_init 23 = .ok (.newarray .int, 2) := by decide +kernel
theorem dX5_init_25 : decode cX5_init 25 = .ok (.putfield 18, 3) := by decide +kernel
theorem dX5_init_28 : decode cX5_init 28 = .ok (.aload_n 0, 1) := by decide +kernel
theorem dX5_init_29 : decode cX5_init 29 = .ok (.bipush 40, 2) := by decide +kernel
theorem dX5_init_31 : decode cX5_init 31 = .ok (.newarray .int, 2) := by decide +kernel
theorem dX5_init_33 : decode cX5_init 33 = .ok (.putfield 21, 3) := by decide +kernel
theorem dX5_init_36 : decode cX5_init 36 = .ok (.return_, 1) := by decide +kernel
set_option maxRecDepth 20000 in
theorem ggX5_add_X5_enterInOrder : GoodIn wsX5_add wsX5_enterInOrder := goodIn_r _ [9, 2, 10, 11, 12, 13, 14, 15] (by decide +kernel) (by decide +kernel)
set_option maxRecDepth 20000 in
theorem gX5_add_X5_enterInOrder : GoodIn wsX5_add (wsV RX5 28 RX5 yX5_enterInOrder wsX5_enterInOrder) := goodIn_app (goodIn_of _ (by decide +kernel)) ggX5_add_X5_enterInOrder
theorem dX5_add_0 : decode cX5_add 0 = .ok (.aload_n 0, 1) := by decide +kernel
theorem dX5_add_1 : decode cX5_add 1 = .ok (.getfield 24, 3) := by decide +kernel
theorem dX5_add_4 : decode cX5_add 4 = .ok (.bipush 40, 2) := by decide +kernel
theorem dX5_add_6 : decode cX5_add 6 = .ok (.if_icmp .lt 6, 3) := by decide +kernel
theorem dX5_add_9 : decode cX5_add 9 = .ok (.bipush (-4), 2) := by decide +kernel
theorem dX5_add_11 : decode cX5_add 11 = .ok (.ireturn, 1) := by decide +kernel
theorem dX5_add_12 : decode cX5_add 12 = .ok (.aload_n 0, 1) := by decide +kernel
theorem dX5_add_13 : decode cX5_add 13 = .ok (.getfield 9, 3) := by decide +kernel
theorem dX5_add_16 : decode cX5_add 16 = .ok (.aload_n 0, 1) := by decide +kernel
theorem dX5_add_17 : decode cX5_add 17 = .ok (.getfield 24, 3) := by decide +kernel
theorem dX5_add_20 : decode cX5_add 20 = .ok (.iload_n 1, 1) := by decide +kernel
theorem dX5_add_21 : decode cX5_add 21 = .ok (.iastore, 1) := by decide +kernel
theorem dX5_add_22 : decode cX5_add 22 = .ok (.aload_n 0, 1) := by decide +kernel
theorem dX5_add_23 : decode cX5_add 23 = .ok (.getfield 15, 3) := by decide +kernel
theorem dX5_add_26 : decode cX5_add 26 = .ok (.aload_n 0, 1) := by decide +kernel
theorem dX5_add_27 : decode cX5_add 27 = .ok (.getfield 24, 3) := by decide +kernel
theorem dX5_add_30 : decode cX5_add 30 = .ok (.iload_n 2, 1) := by decide +kernel
theorem dX5_add_31 : decode cX5_add 31 = .ok (.iastore, 1) := by decide +kernel
theorem dX5_add_32 : decode cX5_add 32 = .ok (.aload_n 0, 1) := by decide +kernel
theorem dX5_add_33 : decode cX5_add 33 = .ok (.getfield 18, 3) := by decide +kernel
theorem dX5_add_36 : decode cX5_add 36 = .ok (.aload_n 0, 1) := by decide +kernel
theorem dX5_add_37 : decode cX5_add 37 = .ok (.getfield 24, 3) := by decide +kernel
theorem dX5_add_40 : decode cX5_add 40 = .ok (.iload_n 3, 1) := by decide +kernel
theorem dX5_add_41 : decode cX5_add 41 = .ok (.iastore, 1) := by decide +kernel
theorem dX5_add_42 : decode cX5_add 42 = .ok (.aload_n 0, 1) := by decide +kernel
theorem dX5_add_43 : decode cX5_add 43 = .ok (.aload_n 0, 1) := by decide +kernel
theorem dX5_add_44 : decode cX5_add 44 = .ok (.getfield 24, 3) := by decide +kernel
theorem dX5_add_47 : decode cX5_add 47 = .ok (.invokevirtual 28, 3) := by decide +kernel
theorem dX5_add_50 : decode cX5_add 50 = .ok (.aload_n 0, 1) := by decide +kernel
theorem dX5_add_51 : decode cX5_add 51 = .ok (.dup, 1) := by decide +kernel
theorem dX5_add_52 : decode cX5_add 52 = .ok (.getfield 24, 3) := by decide +kernel
theorem dX5_add_55 : decode cX5_add 55 = .ok (.iconst 1, 1) := by decide +kernel
theorem dX5_add_56 : decode cX5_add 56 = .ok (.iadd, 1) := by decide +kernel
theorem dX5_add_57 : decode cX5_add 57 = .ok (.putfield 24, 3) := by decide +kernel
theorem dX5_add_60 : decode cX5_add 60 = .ok (.aload_n 0, 1) := by decide +kernel
theorem dX5_add_61 : decode cX5_add 61 = .ok (.getfield 24, 3) := by decide +kernel
theorem dX5_add_64 : decode cX5_add 64 = .ok (.ireturn, 1) := by decide +kernel
theorem dX5_enterInOrder_0 : decode cX5_enterInOrder 0 = .ok (.iload_n 1, 1) := by decide +kernel
theorem dX5_enterInOrder_1 : decode cX5_enterInOrder 1 = .ok (.istore_n 2, 1) := by decide +kernel
theorem dX5_enterInOrder_2 : decode cX5_enterInOrder 2 = .ok (.iload_n 2, 1) := by decide +kernel
theorem dX5_enterInOrder_3 : decode cX5_enterInOrder 3 = .ok (.ifCond .le 45, 3) := by decide +kernel
theorem dX5_enterInOrder_6 : decode cX5_enterInOrder 6 = .ok (.aload_n 0, 1) := by decide +kernel
theorem dX5_enterInOrder_7 : decode cX5_enterInOrder 7 = .ok (.getfield 9, 3) := by decide +kernel
theorem dX5_enterInOrder_10 : decode cX5_enterInOrder 10 = .ok (.aload_n 0, 1) := by decide +kernel
theorem dX5_enterInOrder_11 : decode cX5_enterInOrder 11 = .ok (.getfield 21, 3) := by decide +kernel
theorem dX5_enterInOrder_14 : decode cX5_enterInOrder 14 = .ok (.iload_n 2, 1) := by decide +kernel
theorem dX5_enterInOrder_15 : decode cX5_enterInOrder 15 = .ok (.iconst 1, 1) := by decide +kernel
theorem dX5_enterInOrder_16 : decode cX5_enterInOrder 16 = .ok (.isub, 1) := by decide +kernel
theorem dX5_enterInOrder_17 : decode cX5_enterInOrder 17 = .ok (.iaload, 1) := by decide +kernel
theorem dX5_enterInOrder_18 : decode cX5_enterInOrder 18 = .ok (.iaload, 1) := by decide +kernel
theorem dX5_enterInOrder_19 : decode cX5_enterInOrder 19 = .ok (.aload_n 0, 1) := by decide +kernel
theorem dX5_enterInOrder_20 : decode cX5_enterInOrder 20 = .ok (.getfield 9, 3) := by decide +kernel
theorem dX5_enterInOrder_23 : decode cX5_enterInOrder 23 = .ok (.iload_n 1, 1) := by decide +kernel
theorem dX5_enterInOrder_24 : decode cX5_enterInOrder 24 = .ok (.iaload, 1) := by decide +kernel
theorem dX5_enterInOrder_25 : decode cX5_enterInOrder 25 = .ok (.if_icmp .ge 23, 3) := by decide +kernel
theorem dX5_enterInOrder_28 : decode cX5_enterInOrder 28 = .ok (.aload_n 0, 1) := by decide +kernel
theorem dX5_enterInOrder_29 : decode cX5_enterInOrder 29 = .ok (.getfield 21, 3) := by decide +kernel
theorem dX5_enterInOrder_32 : decode cX5_enterInOrder 32 = .ok (.iload_n 2, 1) := by decide +kernel
theorem dX5_enterInOrder_33 : decode cX5_enterInOrder 33 = .ok (.aload_n 0, 1) := by decide +kernel
theorem dX5_enterInOrder_34 : decode cX5_enterInOrder 34 = .ok (.getfield 21, 3) := by decide +kernel
theorem dX5_enterInOrder_37 : decode cX5_enterInOrder 37 = .ok (.iload_n 2, 1) := by decide +kernel
theorem dX5_enterInOrder_38 : decode cX5_enterInOrder 38 = .ok (.iconst 1, 1) := by decide +kernel
theorem dX5_enterInOrder_39 : decode cX5_enterInOrder 39 = .ok (.isub, 1) := by decide +kernel
theorem dX5_enterInOrder_40 : decode cX5_enterInOrder 40 = .ok (.iaload, 1) := by decide +kernel
theorem dX5_enterInOrder_41 : decode cX5_enterInOrder 41 = .ok (.iastore, 1) := by decide +kernel
theorem dX5_enterInOrder_42 : decode cX5_enterInOrder 42 = .ok (.iinc 2 (-1), 3) := by decide +kernel
theorem dX5_enterInOrder_45 : decode cX5_enterInOrder 45 = .ok (.goto (-43), 3) := by decide +kernel
theorem dX5_enterInOrder_48 : decode cX5_enterInOrder 48 = .ok (.aload_n 0, 1) := by decide +kernel
theorem dX5_enterInOrder_49 : decode cX5_enterInOrder 49 = .ok (.getfield 21, 3) := by decide +kernel
theorem dX5_enterInOrder_52 : decode cX5_enterInOrder 52 = .ok (.iload_n 2, 1) := by decide +kernel
theorem dX5_enterInOrder_53 : decode cX5_enterInOrder 53 = .ok (.iload_n 1, 1) := by decide +kernel
theorem dX5_enterInOrder_54 : decode cX5_enterInOrder 54 = .ok (.iastore, 1) := by decide +kernel
theorem dX5_enterInOrder_55 : decode cX5_enterInOrder 55 = .ok (.return_, 1) := by decide +kernel
theorem dX6_init_0 : decode cX6_init 0 = .ok (.aload_n 0, 1) := by decide +kernel
theorem dX6_init_1 : decode cX6_init 1 = .ok (.invokespecial 3, 3) := by decide +kernel
theorem dX6_init_4 : decode cX6_init 4 = .ok (.aload_n 0, 1) := by decide +kernel
theorem dX6_init_5 : decode cX6_init 5 = .ok (.bipush 40, 2) := by decide +kernel
theorem dX6_init_7 : decode cX6_init 7 = .ok (.newarray .int, 2) := by decide +kernel
theorem dX6_init_9 : decode cX6_init 9 = .ok (.putfield 9, 3) := by decide +kernel
theorem dX6_init_12 : decode cX6_init 12 = .ok (.aload_n 0, 1) := by decide +kernel
theorem dX6_init_13 : decode cX6_init 13 = .ok (.bipush 40, 2) := by decide +kernel
theorem dX6_init_15 : decode cX6_init 15 = .ok (.newarray .int, 2) := by decide +kernel
theorem dX6_init_17 : decode cX6_init 17 = .ok (.putfield 15, 3) := by decide +kernel
theorem dX6_init_20 : decode cX6_init 20 = .ok (.return_, 1) := by decide +kernel
theorem dX6_clear_0 : decode cX6_clear 0 = .ok (.aload_n 0, 1) := by decide +kernel
theorem dX6_clear_1 : decode cX6_clear 1 = .ok (.iconst 0, 1) := by decide +kernel
theorem dX6_clear_2 : decode cX6_clear 2 = .ok (.putfield 18, 3) := by decide +kernel
theorem dX6_clear_5 : decode cX6_clear 5 = .ok (.return_, 1) := by decide +kernel
set_option maxRecDepth 20000 in
theorem ggX6_leastFree_X6_alignedUp : GoodIn wsX6_leastFree wsX6_alignedUp := goodIn_r _ [7] (by decide +kernel) (by decide +kernel)
set_option maxRecDepth 20000 in
theorem gX6_leastFree_X6_alignedUp : GoodIn wsX6_leastFree (va_wsS RX6 22 yX6_alignedUp wsX6_alignedUp) := goodIn_app (goodIn_of _ (by decide +kernel)) ggX6_leastFree_X6_alignedUp
theorem dX6_leastFree_0 : decode cX6_leastFree 0 = .ok (.iload_n 1, 1) := by decide +kernel
theorem dX6_leastFree_1 : decode cX6_leastFree 1 = .ok (.iload_n 3, 1) := by decide +kernel
theorem dX6_leastFree_2 : decode cX6_leastFree 2 = .ok (.invokestatic 22, 3) := by decide +kernel
theorem dX6_leastFree_5 : decode cX6_leastFree 5 = .ok (.istore 4, 2) := by decide +kernel
theorem dX6_leastFree_7 : decode cX6_leastFree 7 = .ok (.iconst 0, 1) := by decide +kernel
theorem dX6_leastFree_8 : decode cX6_leastFree 8 = .ok (.istore 5, 2) := by decide +kernel
theorem dX6_leastFree_10 : decode cX6_leastFree 10 = .ok (.iload 5, 2) := by decide +kernel
theorem dX6_leastFree_12 : decode cX6_leastFree 12 = .ok (.aload_n 0, 1) := by decide +kernel
theorem dX6_leastFree_13 : decode cX6_leastFree 13 = .ok (.getfield 18, 3) := by decide +kernel
theorem dX6_leastFree_16 : decode cX6_leastFree 16 = .ok (.if_icmp .ge 48, 3) := by decide +kernel
theorem dX6_leastFree_19 : decode cX6_leastFree 19 = .ok (.aload_n 0, 1) := by decide +kernel
theorem dX6_leastFree_20 : decode cX6_leastFree 20 = .ok (.getfield 9, 3) := by decide +kernel
theorem dX6_leastFree_23 : decode cX6_leastFree 23 = .ok (.iload 5, 2) := by decide +kernel
theorem dX6_leastFree_25 : decode cX6_leastFree 25 = .ok (.iaload, 1) := by decide +kernel
theorem dX6_leastFree_26 : decode cX6_leastFree 26 = .ok (.iload 4, 2) := by decide +kernel
theorem dX6_leastFree_28 : decode cX6_leastFree 28 = .ok (.iload_n 2, 1) := by decide +kernel
theorem dX6_leastFree_29 : decode cX6_leastFree 29 = .ok (.iadd, 1) := by decide +kernel
theorem dX6_leastFree_30 : decode cX6_leastFree 30 = .ok (.if_icmp .ge 34, 3) := by decide +kernel
theorem dX6_leastFree_33 : decode cX6_leastFree 33 = .ok (.aload_n 0, 1) := by decide +kernel
theorem dX6_leastFree_34 : decode cX6_leastFree 34 = .ok (.getfield 15, 3) := by decide +kernel
theorem dX6_leastFree_37 : decode cX6_leastFree 37 = .ok (.iload 5, 2) := by decide +kernel
theorem dX6_leastFree_39 : decode cX6_leastFree 39 = .ok (.iaload, 1) := by decide +kernel
theorem dX6_leastFree_40 : decode cX6_leastFree 40 = .ok (.iload 4, 2) := by decide +kernel
theorem dX6_leastFree_42 : decode cX6_leastFree 42 = .ok (.if_icmp .le 16, 3) := by decide +kernel
theorem dX6_leastFree_45 : decode cX6_leastFree 45 = .ok (.aload_n 0, 1) := by decide +kernel
theorem dX6_leastFree_46 : decode cX6_leastFree 46 = .ok (.getfield 15, 3) := by decide +kernel
theorem dX6_leastFree_49 : decode cX6_leastFree 49 = .ok (.iload 5, 2) := by decide +kernel
theorem dX6_leastFree_51 : decode cX6_leastFree 51 = .ok (.iaload, 1) := by decide +kernel
theorem dX6_leastFree_52 : decode cX6_leastFree 52 = .ok (.iload_n 3, 1) := by decide +kernel
theorem dX6_leastFree_53 : decode cX6_leastFree 53 = .ok (.invokestatic 22, 3) := by decide +kernel
theorem dX6_leastFree_56 : decode cX6_leastFree 56 = .ok (.istore 4, 2) := by decide +kernel
theorem dX6_leastFree_58 : decode cX6_leastFree 58 = .ok (.iinc 5 1, 3) := by decide +kernel
theorem dX6_leastFree_61 : decode cX6_leastFree 61 = .ok (.goto (-51), 3) := by decide +kernel
theorem dX6_leastFree_64 : decode cX6_leastFree 64 = .ok (.iload 4, 2) := by decide +kernel
theorem dX6_leastFree_66 : decode cX6_leastFree 66 = .ok (.ireturn, 1) := by decide +kernel
theorem dX6_add_0 : decode cX6_add 0 = .ok (.aload_n 0, 1) := by decide +kernel
theorem dX6_add_1 : decode cX6_add 1 = .ok (.getfield 18, 3) := by decide +kernel
theorem dX6_add_4 : decode cX6_add 4 = .ok (.bipush 40, 2) := by decide +kernel
theorem dX6_add_6 : decode cX6_add 6 = .ok (.if_icmp .lt 4, 3) := by decide +kernel
theorem dX6_add_9 : decode cX6_add 9 = .ok (.return_, 1) := by decide +kernel
theorem dX6_add_10 : decode cX6_add 10 = .ok (.aload_n 0, 1) := by decide +kernel
theorem dX6_add_11 : decode cX6_add 11 = .ok (.getfield 18, 3) := by decide +kernel
theorem dX6_add_14 : decode cX6_add 14 = .ok (.istore_n 3, 1) := by decide +kernel
theorem dX6_add_15 : decode cX6_add 15 = .ok (.iload_n 3, 1) := by decide +kernel
theorem dX6_add_16 : decode cX6_add 16 = .ok (.ifCond .le 49, 3) := by decide +kernel
theorem dX6_add_19 : decode cX6_add 19 = .ok (.aload_n 0, 1) := by decide +kernel
theorem dX6_add_20 : decode cX6_add 20 = .ok (.getfield 9, 3) := by decide +kernel
theorem dX6_add_23 : decode cX6_add 23 = .ok (.iload_n 3, 1) := by decide +kernel
theorem dX6_add_24 : decode cX6_add 24 = .ok (.iconst 1, 1) := by decide +kernel
theorem dX6_add_25 : decode cX6_add 25 = .ok (.isub, 1) := by decide +kernel
theorem dX6_add_26 : decode cX6_add 26 = .ok (.iaload, 1) := by decide +kernel
theorem dX6_add_27 : decode cX6_add 27 = .ok (.iload_n 1, 1) := by decide +kernel
theorem dX6_add_28 : decode cX6_add 28 = .ok (.if_icmp .le 37, 3) := by decide +kernel
theorem dX6_add_31 : decode cX6_add 31 = .ok (.aload_n 0, 1) := by decide +kernel
theorem dX6_add_32 : decode cX6_add 32 = .ok (.getfield 9, 3) := by decide +kernel
theorem dX6_add_35 : decode cX6_add 35 = .ok (.iload_n 3, 1) := by decide +kernel
theorem dX6_add_36 : decode cX6_add 36 = .ok (.aload_n 0, 1) := by decide +kernel
theorem dX6_add_37 : decode cX6_add 37 = .ok (.getfield 9, 3) := by decide +kernel
theorem dX6_add_40 : decode cX6_add 40 = .ok (.iload_n 3, 1) := by decide +kernel
theorem dX6_add_41 : decode cX6_add 41 = .ok (.iconst 1, 1) := by decide +kernel
theorem dX6_add_42 : decode cX6_add 42 = .ok (.isub, 1) := by decide +kernel
theorem dX6_add_43 : decode cX6_add 43 = .ok (.iaload, 1) := by decide +kernel
theorem dX6_add_44 : decode cX6_add 44 = .ok (.iastore, 1) := by decide +kernel
theorem dX6_add_45 : decode cX6_add 45 = .ok (.aload_n 0, 1) := by decide +kernel
theorem dX6_add_46 : decode cX6_add 46 = .ok (.getfield 15, 3) := by decide +kernel
theorem dX6_add_49 : decode cX6_add 49 = .ok (.iload_n 3, 1) := by decide +kernel
theorem dX6_add_50 : decode cX6_add 50 = .ok (.aload_n 0, 1) := by decide +kernel
theorem dX6_add_51 : decode cX6_add 51 = .ok (.getfield 15, 3) := by decide +kernel
theorem dX6_add_54 : decode cX6_add 54 = .ok (.iload_n 3, 1) := by decide +kernel
theorem dX6_add_55 : decode cX6_add 55 = .ok (.iconst 1, 1) := by decide +kernel
theorem dX6_add_56 : decode cX6_add 56 = .ok (.isub, 1) := by decide +kernel
theorem dX6_add_57 : decode cX6_add 57 = .ok (.iaload, 1) := by decide +kernel
theorem dX6_add_58 : decode cX6_add 58 = .ok (.iastore, 1) := by decide +kernel
theorem dX6_add_59 : decode cX6_add 59 = .ok (.iinc 3 (-1), 3) := by decide +kernel
theorem dX6_add_62 : decode cX6_add 62 = .ok (.goto (-47), 3) := by decide +kernel
theorem dX6_add_65 : decode cX6_add 65 = .ok (.aload_n 0, 1) := by decide +kernel
theorem dX6_add_66 : decode cX6_add 66 = .ok (.getfield 9, 3) := by decide +kernel
theorem dX6_add_69 : decode cX6_add 69 = .ok (.iload_n 3, 1) := by decide +kernel
theorem dX6_add_70 : decode cX6_add 70 = .ok (.iload_n 1, 1) := by decide +kernel
theorem dX6_add_71 : decode cX6_add 71 = .ok (.iastore, 1) := by decide +kernel
theorem dX6_add_72 : decode cX6_add 72 = .ok (.aload_n 0, 1) := by decide +kernel
theorem dX6_add_73 : decode cX6_add 73 = .ok (.getfield 15, 3) := by decide +kernel
theorem dX6_add_76 : decode cX6_add 76 = .ok (.iload_n 3, 1) := by decide +kernel
theorem dX6_add_77 : decode cX6_add 77 = .ok (.iload_n 2, 1) := by decide +kernel
theorem dX6_add_78 : decode cX6_add 78 = .ok (.iastore, 1) := by decide +kernel
theorem dX6_add_79 : decode cX6_add 79 = .ok (.aload_n 0, 1) := by decide +kernel
theorem dX6_add_80 : decode cX6_add 80 = .ok (.dup, 1) := by decide +kernel
theorem dX6_add_81 : decode cX6_add 81 = .ok (.getfield 18, 3) := by decide +kernel
theorem dX6_add_84 : decode cX6_add 84 = .ok (.iconst 1, 1) := by decide +kernel
theorem dX6_add_85 : decode cX6_add 85 = .ok (.iadd, 1) := by decide +kernel
theorem dX6_add_86 : decode cX6_add 86 = .ok (.putfield 18, 3) := by decide +kernel
theorem dX6_add_89 : decode cX6_add 89 = .ok (.return_, 1) := by decide +kernel
theorem dX6_alignedUp_0 : decode cX6_alignedUp 0 = .ok (.iload_n 1, 1) := by decide +kernel
theorem dX6_alignedUp_1 : decode cX6_alignedUp 1 = .ok (.iconst 1, 1) := by decide +kernel
theorem dX6_alignedUp_2 : decode cX6_alignedUp 2 = .ok (.if_icmp .ge 7, 3) := by decide +kernel
theorem dX6_alignedUp_5 : decode cX6_alignedUp 5 = .ok (.iload_n 0, 1) := by decide +kernel
theorem dX6_alignedUp_6 : decode cX6_alignedUp 6 = .ok (.goto 12, 3) := by decide +kernel
theorem dX6_alignedUp_9 : decode cX6_alignedUp 9 = .ok (.iload_n 0, 1) := by decide +kernel
theorem dX6_alignedUp_10 : decode cX6_alignedUp 10 = .ok (.iload_n 1, 1) := by decide +kernel
theorem dX6_alignedUp_11 : decode cX6_alignedUp 11 = .ok (.iadd, 1) := by decide +kernel
theorem dX6_alignedUp_12 : decode cX6_alignedUp 12 = .ok (.iconst 1, 1) := by decide +kernel
theorem dX6_alignedUp_13 : decode cX6_alignedUp 13 = .ok (.isub, 1) := by decide +kernel
theorem dX6_alignedUp_14 : decode cX6_alignedUp 14 = .ok (.iload_n 1, 1) := by decide +kernel
theorem dX6_alignedUp_15 : decode cX6_alignedUp 15 = .ok (.idiv, 1) := by decide +kernel
theorem dX6_alignedUp_16 : decode cX6_alignedUp 16 = .ok (.iload_n 1, 1) := by decide +kernel
theorem dX6_alignedUp_17 : decode cX6_alignedUp 17 = .ok (.imul, 1) := by decide +kernel
theorem dX6_alignedUp_18 : decode cX6_alignedUp 18 = .ok (.ireturn, 1) := by decide +kernel
