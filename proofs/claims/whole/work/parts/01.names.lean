/-! ===== BEGIN printed: names, fields, word lists, decode rows ===== -/
def RX0 : String := "FreeShelf$Cycles"
def TX0 : u_T := fun k => match k with
  | 0 => ("FreeShelf$Cycles", "found", "[I", true)
  | 1 => ("FreeShelf$Cycles", "low", "[I", true)
  | 2 => ("FreeShelf$Cycles", "tried", "[I", true)
  | 3 => ("FreeShelf$Cycles", "path", "[I", true)
  | 4 => ("FreeShelf$Cycles", "open", "[I", true)
  | 5 => ("FreeShelf$Cycles", "isOpen", "[Z", true)
  | 6 => ("FreeShelf$Cycles", "time", "I", false)
  | 7 => ("FreeShelf$Cycles", "length", "I", false)
  | 8 => ("FreeShelf$Cycles", "opened", "I", false)
  | _ => ("FreeShelf$Cycles", "best", "I", false)
def tyX0 : Nat → FieldType := fun k => match k with
  | 0 => .array .int
  | 1 => .array .int
  | 2 => .array .int
  | 3 => .array .int
  | 4 => .array .int
  | 5 => .array .boolean
  | 6 => .int
  | 7 => .int
  | 8 => .int
  | _ => .int
abbrev wsX00 : List Cond := u_ws RX0 TX0 10
theorem nmX0 : ∀ a, a < 10 → ∀ b, b < 10 → a ≠ b → (TX0 a).2.1 ≠ (TX0 b).2.1 := by decide +kernel
theorem tyX0_ok : ∀ k, k < 10 → parseFieldDescriptor (TX0 k).2.2.1 = some (tyX0 k) := by decide +kernel
abbrev cX0_init : ByteArray := prog_2_method_1_code
def yX0_init : MethodName := ⟨RX0, "<init>", "()V"⟩
abbrev cX0_lowest : ByteArray := prog_2_method_2_code
def yX0_lowest : MethodName := ⟨RX0, "lowest", "([II)I"⟩
abbrev cX0_discover : ByteArray := prog_2_method_3_code
def yX0_discover : MethodName := ⟨RX0, "discover", "(I)V"⟩
abbrev cX0_tryNext : ByteArray := prog_2_method_4_code
def yX0_tryNext : MethodName := ⟨RX0, "tryNext", "(II)V"⟩
abbrev cX0_leave : ByteArray := prog_2_method_5_code
def yX0_leave : MethodName := ⟨RX0, "leave", "(I)V"⟩
abbrev cX0_close : ByteArray := prog_2_method_6_code
def yX0_close : MethodName := ⟨RX0, "close", "(I)V"⟩
abbrev cX0_note : ByteArray := prog_2_method_7_code
def yX0_note : MethodName := ⟨RX0, "note", "(I)V"⟩
def RX1 : String := "FreeShelf$Exploration"
def TX1 : u_T := fun k => match k with
  | 0 => ("FreeShelf$Exploration", "machine", "LFreeShelf$Machine;", true)
  | 1 => ("FreeShelf$Exploration", "rows", "[I", true)
  | 2 => ("FreeShelf$Exploration", "next", "[I", true)
  | 3 => ("FreeShelf$Exploration", "parents", "[I", true)
  | 4 => ("FreeShelf$Exploration", "choices", "[I", true)
  | 5 => ("FreeShelf$Exploration", "depths", "[I", true)
  | 6 => ("FreeShelf$Exploration", "traits", "[I", true)
  | 7 => ("FreeShelf$Exploration", "places", "[I", true)
  | 8 => ("FreeShelf$Exploration", "cycles", "LFreeShelf$Cycles;", true)
  | 9 => ("FreeShelf$Exploration", "known", "Z", false)
  | 10 => ("FreeShelf$Exploration", "incomplete", "Z", false)
  | 11 => ("FreeShelf$Exploration", "states", "I", false)
  | 12 => ("FreeShelf$Exploration", "mostWaiting", "I", false)
  | 13 => ("FreeShelf$Exploration", "results", "I", false)
  | 14 => ("FreeShelf$Exploration", "firstStuck", "I", false)
  | _ => ("FreeShelf$Exploration", "firstInCycle", "I", false)
def tyX1 : Nat → FieldType := fun k => match k with
  | 0 => .object "FreeShelf$Machine"
  | 1 => .array .int
  | 2 => .array .int
  | 3 => .array .int
  | 4 => .array .int
  | 5 => .array .int
  | 6 => .array .int
  | 7 => .array .int
  | 8 => .object "FreeShelf$Cycles"
  | 9 => .boolean
  | 10 => .boolean
  | 11 => .int
  | 12 => .int
  | 13 => .int
  | 14 => .int
  | _ => .int
abbrev wsX10 : List Cond := u_ws RX1 TX1 16
theorem nmX1 : ∀ a, a < 16 → ∀ b, b < 16 → a ≠ b → (TX1 a).2.1 ≠ (TX1 b).2.1 := by decide +kernel
theorem tyX1_ok : ∀ k, k < 16 → parseFieldDescriptor (TX1 k).2.2.1 = some (tyX1 k) := by decide +kernel
abbrev cX1_init : ByteArray := prog_3_method_1_code
def yX1_init : MethodName := ⟨RX1, "<init>", "()V"⟩
abbrev cX1_isKept : ByteArray := prog_3_method_2_code
def yX1_isKept : MethodName := ⟨RX1, "isKept", "(I)Z"⟩
abbrev cX1_goThrough : ByteArray := prog_3_method_3_code
def yX1_goThrough : MethodName := ⟨RX1, "goThrough", "(LFreeShelf$Judge;)V"⟩
abbrev cX1_forget : ByteArray := prog_3_method_4_code
def yX1_forget : MethodName := ⟨RX1, "forget", "()V"⟩
abbrev cX1_load : ByteArray := prog_3_method_5_code
def yX1_load : MethodName := ⟨RX1, "load", "(I)V"⟩
abbrev cX1_keep : ByteArray := prog_3_method_6_code
def yX1_keep : MethodName := ⟨RX1, "keep", "(II)I"⟩
abbrev cX1_findPlace : ByteArray := prog_3_method_7_code
def yX1_findPlace : MethodName := ⟨RX1, "findPlace", "()I"⟩
abbrev cX1_isSame : ByteArray := prog_3_method_8_code
def yX1_isSame : MethodName := ⟨RX1, "isSame", "(I)Z"⟩
abbrev cX1_describe : ByteArray := prog_3_method_9_code
def yX1_describe : MethodName := ⟨RX1, "describe", "(ILFreeShelf$Judge;)V"⟩
abbrev cX1_figure : ByteArray := prog_3_method_10_code
def yX1_figure : MethodName := ⟨RX1, "figure", "(I)I"⟩
abbrev cX1_countTrait : ByteArray := prog_3_method_11_code
def yX1_countTrait : MethodName := ⟨RX1, "countTrait", "(I)I"⟩
abbrev cX1_countPairs : ByteArray := prog_3_method_12_code
def yX1_countPairs : MethodName := ⟨RX1, "countPairs", "()I"⟩
abbrev cX1_find : ByteArray := prog_3_method_13_code
def yX1_find : MethodName := ⟨RX1, "find", "(I)I"⟩
abbrev cX1_withTrait : ByteArray := prog_3_method_14_code
def yX1_withTrait : MethodName := ⟨RX1, "withTrait", "(II)I"⟩
abbrev cX1_withMostWaiting : ByteArray := prog_3_method_15_code
def yX1_withMostWaiting : MethodName := ⟨RX1, "withMostWaiting", "()I"⟩
abbrev cX1_stuckState : ByteArray := prog_3_method_16_code
def yX1_stuckState : MethodName := ⟨RX1, "stuckState", "()I"⟩
abbrev cX1_isWithinCall : ByteArray := prog_3_method_17_code
def yX1_isWithinCall : MethodName := ⟨RX1, "isWithinCall", "(II)Z"⟩
abbrev cX1_stateInCycle : ByteArray := prog_3_method_18_code
def yX1_stateInCycle : MethodName := ⟨RX1, "stateInCycle", "()I"⟩
abbrev cX1_choiceOfWalk : ByteArray := prog_3_method_19_code
def yX1_choiceOfWalk : MethodName := ⟨RX1, "choiceOfWalk", "(II)I"⟩
abbrev cX1_countResults : ByteArray := prog_3_method_20_code
def yX1_countResults : MethodName := ⟨RX1, "countResults", "()I"⟩
abbrev cX1_isNewResult : ByteArray := prog_3_method_21_code
def yX1_isNewResult : MethodName := ⟨RX1, "isNewResult", "(I)Z"⟩
abbrev cX1_hasSameAnswers : ByteArray := prog_3_method_22_code
def yX1_hasSameAnswers : MethodName := ⟨RX1, "hasSameAnswers", "(II)Z"⟩
def RX2 : String := "FreeShelf$Grammar"
def TX2 : u_T := fun k => match k with
  | _ => ("", "", "", false)
def tyX2 : Nat → FieldType := fun k => match k with
  | _ => .int
abbrev wsX20 : List Cond := u_ws RX2 TX2 0
theorem nmX2 : ∀ a, a < 0 → ∀ b, b < 0 → a ≠ b → (TX2 a).2.1 ≠ (TX2 b).2.1 := by decide +kernel
theorem tyX2_ok : ∀ k, k < 0 → parseFieldDescriptor (TX2 k).2.2.1 = some (tyX2 k) := by decide +kernel
abbrev cX2_allows : ByteArray := prog_4_method_2_code
def yX2_allows : MethodName := ⟨RX2, "allows", "(IIII)Z"⟩
abbrev cX2_fits : ByteArray := prog_4_method_3_code
def yX2_fits : MethodName := ⟨RX2, "fits", "(II)Z"⟩
def RX3 : String := "FreeShelf$Judge"
def TX3 : u_T := fun k => match k with
  | _ => ("FreeShelf$Judge", "shelves", "[[I", true)
def tyX3 : Nat → FieldType := fun k => match k with
  | _ => .array (.array .int)
abbrev wsX30 : List Cond := u_ws RX3 TX3 1
theorem nmX3 : ∀ a, a < 1 → ∀ b, b < 1 → a ≠ b → (TX3 a).2.1 ≠ (TX3 b).2.1 := by decide +kernel
theorem tyX3_ok : ∀ k, k < 1 → parseFieldDescriptor (TX3 k).2.2.1 = some (tyX3 k) := by decide +kernel
abbrev cX3_init : ByteArray := prog_5_method_1_code
def yX3_init : MethodName := ⟨RX3, "<init>", "()V"⟩
abbrev cX3_findsOrder : ByteArray := prog_5_method_2_code
def yX3_findsOrder : MethodName := ⟨RX3, "findsOrder", "(LFreeShelf$Machine;)Z"⟩
abbrev cX3_followsMoments : ByteArray := prog_5_method_3_code
def yX3_followsMoments : MethodName := ⟨RX3, "followsMoments", "(LFreeShelf$Machine;)Z"⟩
abbrev cX3_fillFirstShelf : ByteArray := prog_5_method_4_code
def yX3_fillFirstShelf : MethodName := ⟨RX3, "fillFirstShelf", "(LFreeShelf$Program;)V"⟩
abbrev cX3_extendOrder : ByteArray := prog_5_method_5_code
def yX3_extendOrder : MethodName := ⟨RX3, "extendOrder", "(LFreeShelf$Machine;II)Z"⟩
abbrev cX3_canFollow : ByteArray := prog_5_method_6_code
def yX3_canFollow : MethodName := ⟨RX3, "canFollow", "(LFreeShelf$Machine;II)Z"⟩
abbrev cX3_serve : ByteArray := prog_5_method_7_code
def yX3_serve : MethodName := ⟨RX3, "serve", "(LFreeShelf$Program;II[I)Z"⟩
abbrev cX3_addTo : ByteArray := prog_5_method_8_code
def yX3_addTo : MethodName := ⟨RX3, "addTo", "([II)V"⟩
abbrev cX3_removeFrom : ByteArray := prog_5_method_9_code
def yX3_removeFrom : MethodName := ⟨RX3, "removeFrom", "([II)I"⟩
def RX4 : String := "FreeShelf$Layout"
def TX4 : u_T := fun k => match k with
  | _ => ("", "", "", false)
def tyX4 : Nat → FieldType := fun k => match k with
  | _ => .int
abbrev wsX40 : List Cond := u_ws RX4 TX4 0
theorem nmX4 : ∀ a, a < 0 → ∀ b, b < 0 → a ≠ b → (TX4 a).2.1 ≠ (TX4 b).2.1 := by decide +kernel
theorem tyX4_ok : ∀ k, k < 0 → parseFieldDescriptor (TX4 k).2.2.1 = some (tyX4 k) := by decide +kernel
abbrev cX4_ofThread : ByteArray := prog_6_method_2_code
def yX4_ofThread : MethodName := ⟨RX4, "ofThread", "(I)I"⟩
abbrev cX4_ofField : ByteArray := prog_6_method_3_code
def yX4_ofField : MethodName := ⟨RX4, "ofField", "(II)I"⟩
def RX5 : String := "FreeShelf$Machine"
def TX5 : u_T := fun k => match k with
  | 0 => ("FreeShelf$Machine", "program", "LFreeShelf$Program;", true)
  | 1 => ("FreeShelf$Machine", "cells", "[I", true)
  | _ => ("FreeShelf$Machine", "delayed", "Z", false)
def tyX5 : Nat → FieldType := fun k => match k with
  | 0 => .object "FreeShelf$Program"
  | 1 => .array .int
  | _ => .boolean
abbrev wsX50 : List Cond := u_ws RX5 TX5 3
theorem nmX5 : ∀ a, a < 3 → ∀ b, b < 3 → a ≠ b → (TX5 a).2.1 ≠ (TX5 b).2.1 := by decide +kernel
theorem tyX5_ok : ∀ k, k < 3 → parseFieldDescriptor (TX5 k).2.2.1 = some (tyX5 k) := by decide +kernel
abbrev cX5_init : ByteArray := prog_7_method_1_code
def yX5_init : MethodName := ⟨RX5, "<init>", "()V"⟩
abbrev cX5_start : ByteArray := prog_7_method_2_code
def yX5_start : MethodName := ⟨RX5, "start", "(LFreeShelf$Program;)I"⟩
abbrev cX5_resume : ByteArray := prog_7_method_3_code
def yX5_resume : MethodName := ⟨RX5, "resume", "(LFreeShelf$Program;[II)V"⟩
abbrev cX5_canFinish : ByteArray := prog_7_method_4_code
def yX5_canFinish : MethodName := ⟨RX5, "canFinish", "(I)Z"⟩
abbrev cX5_isPossible : ByteArray := prog_7_method_5_code
def yX5_isPossible : MethodName := ⟨RX5, "isPossible", "(I)Z"⟩
abbrev cX5_isAtEnd : ByteArray := prog_7_method_6_code
def yX5_isAtEnd : MethodName := ⟨RX5, "isAtEnd", "()Z"⟩
abbrev cX5_hasError : ByteArray := prog_7_method_7_code
def yX5_hasError : MethodName := ⟨RX5, "hasError", "()Z"⟩
abbrev cX5_waitingNodes : ByteArray := prog_7_method_8_code
def yX5_waitingNodes : MethodName := ⟨RX5, "waitingNodes", "()I"⟩
abbrev cX5_choose : ByteArray := prog_7_method_9_code
def yX5_choose : MethodName := ⟨RX5, "choose", "(I)V"⟩
abbrev cX5_advance : ByteArray := prog_7_method_10_code
def yX5_advance : MethodName := ⟨RX5, "advance", "(I)V"⟩
abbrev cX5_beginCall : ByteArray := prog_7_method_11_code
def yX5_beginCall : MethodName := ⟨RX5, "beginCall", "(II)V"⟩
abbrev cX5_callsOver : ByteArray := prog_7_method_12_code
def yX5_callsOver : MethodName := ⟨RX5, "callsOver", "()I"⟩
abbrev cX5_ownActs : ByteArray := prog_7_method_13_code
def yX5_ownActs : MethodName := ⟨RX5, "ownActs", "(III)I"⟩
abbrev cX5_ownError : ByteArray := prog_7_method_14_code
def yX5_ownError : MethodName := ⟨RX5, "ownError", "(III)I"⟩
abbrev cX5_ownAct : ByteArray := prog_7_method_15_code
def yX5_ownAct : MethodName := ⟨RX5, "ownAct", "(II)V"⟩
abbrev cX5_waitsForWrites : ByteArray := prog_7_method_16_code
def yX5_waitsForWrites : MethodName := ⟨RX5, "waitsForWrites", "(I)Z"⟩
abbrev cX5_appends : ByteArray := prog_7_method_17_code
def yX5_appends : MethodName := ⟨RX5, "appends", "(I)Z"⟩
abbrev cX5_memoryError : ByteArray := prog_7_method_18_code
def yX5_memoryError : MethodName := ⟨RX5, "memoryError", "(II)I"⟩
abbrev cX5_nodeError : ByteArray := prog_7_method_19_code
def yX5_nodeError : MethodName := ⟨RX5, "nodeError", "(II)I"⟩
abbrev cX5_perform : ByteArray := prog_7_method_20_code
def yX5_perform : MethodName := ⟨RX5, "perform", "(III)V"⟩
abbrev cX5_seen : ByteArray := prog_7_method_21_code
def yX5_seen : MethodName := ⟨RX5, "seen", "(II)I"⟩
abbrev cX5_write : ByteArray := prog_7_method_22_code
def yX5_write : MethodName := ⟨RX5, "write", "(III)V"⟩
abbrev cX5_letComeUntil : ByteArray := prog_7_method_23_code
def yX5_letComeUntil : MethodName := ⟨RX5, "letComeUntil", "(II)V"⟩
abbrev cX5_comeOldest : ByteArray := prog_7_method_24_code
def yX5_comeOldest : MethodName := ⟨RX5, "comeOldest", "(I)V"⟩
abbrev cX5_store : ByteArray := prog_7_method_25_code
def yX5_store : MethodName := ⟨RX5, "store", "(II)V"⟩
abbrev cX5_swap : ByteArray := prog_7_method_26_code
def yX5_swap : MethodName := ⟨RX5, "swap", "(IIII)V"⟩
abbrev cX5_takeNode : ByteArray := prog_7_method_27_code
def yX5_takeNode : MethodName := ⟨RX5, "takeNode", "()I"⟩
abbrev cX5_release : ByteArray := prog_7_method_28_code
def yX5_release : MethodName := ⟨RX5, "release", "(I)V"⟩
abbrev cX5_guardFor : ByteArray := prog_7_method_29_code
def yX5_guardFor : MethodName := ⟨RX5, "guardFor", "(I)I"⟩
abbrev cX5_endCall : ByteArray := prog_7_method_30_code
def yX5_endCall : MethodName := ⟨RX5, "endCall", "(III)V"⟩
abbrev cX5_noteMoment : ByteArray := prog_7_method_31_code
def yX5_noteMoment : MethodName := ⟨RX5, "noteMoment", "(III)V"⟩
abbrev cX5_settle : ByteArray := prog_7_method_32_code
def yX5_settle : MethodName := ⟨RX5, "settle", "(I)V"⟩
abbrev cX5_freeUnguarded : ByteArray := prog_7_method_33_code
def yX5_freeUnguarded : MethodName := ⟨RX5, "freeUnguarded", "()V"⟩
abbrev cX5_isGuarded : ByteArray := prog_7_method_34_code
def yX5_isGuarded : MethodName := ⟨RX5, "isGuarded", "(I)Z"⟩
abbrev cX5_turnEpoch : ByteArray := prog_7_method_35_code
def yX5_turnEpoch : MethodName := ⟨RX5, "turnEpoch", "()V"⟩
abbrev cX5_areAllInPresent : ByteArray := prog_7_method_36_code
def yX5_areAllInPresent : MethodName := ⟨RX5, "areAllInPresent", "()Z"⟩
def RX6 : String := "FreeShelf$Program"
def TX6 : u_T := fun k => match k with
  | 0 => ("FreeShelf$Program", "acts", "[I", true)
  | 1 => ("FreeShelf$Program", "lengths", "[I", true)
  | 2 => ("FreeShelf$Program", "meanings", "[I", true)
  | 3 => ("FreeShelf$Program", "counts", "[I", true)
  | 4 => ("FreeShelf$Program", "routines", "[I", true)
  | 5 => ("FreeShelf$Program", "arguments", "[I", true)
  | 6 => ("FreeShelf$Program", "manner", "I", false)
  | 7 => ("FreeShelf$Program", "late", "Z", false)
  | _ => ("FreeShelf$Program", "model", "I", false)
def tyX6 : Nat → FieldType := fun k => match k with
  | 0 => .array .int
  | 1 => .array .int
  | 2 => .array .int
  | 3 => .array .int
  | 4 => .array .int
  | 5 => .array .int
  | 6 => .int
  | 7 => .boolean
  | _ => .int
abbrev wsX60 : List Cond := u_ws RX6 TX6 9
theorem nmX6 : ∀ a, a < 9 → ∀ b, b < 9 → a ≠ b → (TX6 a).2.1 ≠ (TX6 b).2.1 := by decide +kernel
theorem tyX6_ok : ∀ k, k < 9 → parseFieldDescriptor (TX6 k).2.2.1 = some (tyX6 k) := by decide +kernel
abbrev cX6_init : ByteArray := prog_8_method_1_code
def yX6_init : MethodName := ⟨RX6, "<init>", "()V"⟩
abbrev cX6_copyFrom : ByteArray := prog_8_method_2_code
def yX6_copyFrom : MethodName := ⟨RX6, "copyFrom", "(LFreeShelf$Program;)V"⟩
abbrev cX6_size : ByteArray := prog_8_method_3_code
def yX6_size : MethodName := ⟨RX6, "size", "(I)I"⟩
abbrev cX6_append : ByteArray := prog_8_method_4_code
def yX6_append : MethodName := ⟨RX6, "append", "(IIIII)I"⟩
abbrev cX6_find : ByteArray := prog_8_method_5_code
def yX6_find : MethodName := ⟨RX6, "find", "(II)I"⟩
abbrev cX6_total : ByteArray := prog_8_method_6_code
def yX6_total : MethodName := ⟨RX6, "total", "()I"⟩
abbrev cX6_isFullFor : ByteArray := prog_8_method_7_code
def yX6_isFullFor : MethodName := ⟨RX6, "isFullFor", "(I)Z"⟩
abbrev cX6_addCall : ByteArray := prog_8_method_8_code
def yX6_addCall : MethodName := ⟨RX6, "addCall", "(III)I"⟩
def RX7 : String := "FreeShelf$Value"
def TX7 : u_T := fun k => match k with
  | _ => ("", "", "", false)
def tyX7 : Nat → FieldType := fun k => match k with
  | _ => .int
abbrev wsX70 : List Cond := u_ws RX7 TX7 0
theorem nmX7 : ∀ a, a < 0 → ∀ b, b < 0 → a ≠ b → (TX7 a).2.1 ≠ (TX7 b).2.1 := by decide +kernel
theorem tyX7_ok : ∀ k, k < 0 → parseFieldDescriptor (TX7 k).2.2.1 = some (tyX7 k) := by decide +kernel
abbrev cX7_ofNumber : ByteArray := prog_9_method_2_code
def yX7_ofNumber : MethodName := ⟨RX7, "ofNumber", "(I)I"⟩
abbrev cX7_ofNode : ByteArray := prog_9_method_3_code
def yX7_ofNode : MethodName := ⟨RX7, "ofNode", "(I)I"⟩
abbrev cX7_kind : ByteArray := prog_9_method_4_code
def yX7_kind : MethodName := ⟨RX7, "kind", "(I)I"⟩
abbrev cX7_amount : ByteArray := prog_9_method_5_code
def yX7_amount : MethodName := ⟨RX7, "amount", "(I)I"⟩
abbrev cX7_areAlike : ByteArray := prog_9_method_6_code
def yX7_areAlike : MethodName := ⟨RX7, "areAlike", "(II)Z"⟩
abbrev cX7_marked : ByteArray := prog_9_method_7_code
def yX7_marked : MethodName := ⟨RX7, "marked", "(II)I"⟩
abbrev cX7_part : ByteArray := prog_9_method_8_code
def yX7_part : MethodName := ⟨RX7, "part", "(II)I"⟩
abbrev cX7_lack : ByteArray := prog_9_method_9_code
def yX7_lack : MethodName := ⟨RX7, "lack", "(II)I"⟩
abbrev cX7_answerFrom : ByteArray := prog_9_method_10_code
def yX7_answerFrom : MethodName := ⟨RX7, "answerFrom", "(I)I"⟩
def RX8 : String := "FreeShelf"
def TX8 : u_T := fun k => match k with
  | 0 => ("FreeShelf", "plan", "LFreeShelf$Program;", true)
  | 1 => ("FreeShelf", "live", "LFreeShelf$Machine;", true)
  | 2 => ("FreeShelf", "judge", "LFreeShelf$Judge;", true)
  | 3 => ("FreeShelf", "search", "LFreeShelf$Exploration;", false)
  | 4 => ("FreeShelf", "running", "Z", false)
  | 5 => ("FreeShelf", "made", "I", false)
  | 6 => ("FreeShelf", "last", "I", false)
  | _ => ("FreeShelf", "explorations", "I", false)
def tyX8 : Nat → FieldType := fun k => match k with
  | 0 => .object "FreeShelf$Program"
  | 1 => .object "FreeShelf$Machine"
  | 2 => .object "FreeShelf$Judge"
  | 3 => .object "FreeShelf$Exploration"
  | 4 => .boolean
  | 5 => .int
  | 6 => .int
  | _ => .int
abbrev wsX80 : List Cond := u_ws RX8 TX8 8
theorem nmX8 : ∀ a, a < 8 → ∀ b, b < 8 → a ≠ b → (TX8 a).2.1 ≠ (TX8 b).2.1 := by decide +kernel
theorem tyX8_ok : ∀ k, k < 8 → parseFieldDescriptor (TX8 k).2.2.1 = some (tyX8 k) := by decide +kernel
abbrev cX8_init : ByteArray := prog_1_method_1_code
def yX8_init : MethodName := ⟨RX8, "<init>", "()V"⟩
abbrev cX8_act : ByteArray := prog_1_method_2_code
def yX8_act : MethodName := ⟨RX8, "act", "(IIIII)I"⟩
abbrev cX8_tear : ByteArray := prog_1_method_3_code
def yX8_tear : MethodName := ⟨RX8, "tear", "(II)I"⟩
abbrev cX8_means : ByteArray := prog_1_method_4_code
def yX8_means : MethodName := ⟨RX8, "means", "(II)I"⟩
abbrev cX8_moment : ByteArray := prog_1_method_5_code
def yX8_moment : MethodName := ⟨RX8, "moment", "(IIZ)I"⟩
abbrev cX8_call : ByteArray := prog_1_method_6_code
def yX8_call : MethodName := ⟨RX8, "call", "(III)I"⟩
abbrev cX8_clear : ByteArray := prog_1_method_7_code
def yX8_clear : MethodName := ⟨RX8, "clear", "()I"⟩
abbrev cX8_manner : ByteArray := prog_1_method_8_code
def yX8_manner : MethodName := ⟨RX8, "manner", "(I)I"⟩
abbrev cX8_late : ByteArray := prog_1_method_9_code
def yX8_late : MethodName := ⟨RX8, "late", "(Z)I"⟩
abbrev cX8_model : ByteArray := prog_1_method_10_code
def yX8_model : MethodName := ⟨RX8, "model", "(I)I"⟩
abbrev cX8_told : ByteArray := prog_1_method_11_code
def yX8_told : MethodName := ⟨RX8, "told", "(III)I"⟩
abbrev cX8_begin : ByteArray := prog_1_method_12_code
def yX8_begin : MethodName := ⟨RX8, "begin", "()I"⟩
abbrev cX8_step : ByteArray := prog_1_method_13_code
def yX8_step : MethodName := ⟨RX8, "step", "(I)I"⟩
abbrev cX8_may : ByteArray := prog_1_method_14_code
def yX8_may : MethodName := ⟨RX8, "may", "(I)I"⟩
abbrev cX8_run : ByteArray := prog_1_method_15_code
def yX8_run : MethodName := ⟨RX8, "run", "(I)I"⟩
abbrev cX8_word : ByteArray := prog_1_method_16_code
def yX8_word : MethodName := ⟨RX8, "word", "(II)I"⟩
abbrev cX8_local : ByteArray := prog_1_method_17_code
def yX8_local : MethodName := ⟨RX8, "local", "(III)I"⟩
abbrev cX8_node : ByteArray := prog_1_method_18_code
def yX8_node : MethodName := ⟨RX8, "node", "(I)I"⟩
abbrev cX8_thread : ByteArray := prog_1_method_19_code
def yX8_thread : MethodName := ⟨RX8, "thread", "(II)I"⟩
abbrev cX8_answer : ByteArray := prog_1_method_20_code
def yX8_answer : MethodName := ⟨RX8, "answer", "(II)I"⟩
abbrev cX8_epoch : ByteArray := prog_1_method_21_code
def yX8_epoch : MethodName := ⟨RX8, "epoch", "()I"⟩
abbrev cX8_agrees : ByteArray := prog_1_method_22_code
def yX8_agrees : MethodName := ⟨RX8, "agrees", "()I"⟩
abbrev cX8_keeps : ByteArray := prog_1_method_23_code
def yX8_keeps : MethodName := ⟨RX8, "keeps", "()I"⟩
abbrev cX8_explore : ByteArray := prog_1_method_24_code
def yX8_explore : MethodName := ⟨RX8, "explore", "()I"⟩
abbrev cX8_explored : ByteArray := prog_1_method_25_code
def yX8_explored : MethodName := ⟨RX8, "explored", "(I)I"⟩
abbrev cX8_first : ByteArray := prog_1_method_26_code
def yX8_first : MethodName := ⟨RX8, "first", "(I)I"⟩
abbrev cX8_walk : ByteArray := prog_1_method_27_code
def yX8_walk : MethodName := ⟨RX8, "walk", "(II)I"⟩
abbrev cX8_next : ByteArray := prog_1_method_28_code
def yX8_next : MethodName := ⟨RX8, "next", "(II)I"⟩
abbrev cX8_go : ByteArray := prog_1_method_29_code
def yX8_go : MethodName := ⟨RX8, "go", "(I)I"⟩
abbrev cX8_answers : ByteArray := prog_1_method_30_code
def yX8_answers : MethodName := ⟨RX8, "answers", "()I"⟩
abbrev cX8_isRoutine : ByteArray := prog_1_method_31_code
def yX8_isRoutine : MethodName := ⟨RX8, "isRoutine", "(I)Z"⟩
abbrev cX8_isThread : ByteArray := prog_1_method_32_code
def yX8_isThread : MethodName := ⟨RX8, "isThread", "(I)Z"⟩
abbrev cX8_isChoice : ByteArray := prog_1_method_33_code
def yX8_isChoice : MethodName := ⟨RX8, "isChoice", "(I)Z"⟩
abbrev cX8_toldOfRoutine : ByteArray := prog_1_method_34_code
def yX8_toldOfRoutine : MethodName := ⟨RX8, "toldOfRoutine", "(II)I"⟩
abbrev cX8_toldOfThread : ByteArray := prog_1_method_35_code
def yX8_toldOfThread : MethodName := ⟨RX8, "toldOfThread", "(II)I"⟩
abbrev cX8_lessOne : ByteArray := prog_1_method_36_code
def yX8_lessOne : MethodName := ⟨RX8, "lessOne", "(I)I"⟩
abbrev cX8_choose : ByteArray := prog_1_method_37_code
def yX8_choose : MethodName := ⟨RX8, "choose", "(I)V"⟩
abbrev cX8_choiceInTurn : ByteArray := prog_1_method_38_code
def yX8_choiceInTurn : MethodName := ⟨RX8, "choiceInTurn", "()I"⟩
def RX9 : String := "FreeShelfModel"
def TX9 : u_T := fun k => match k with
  | 0 => ("FreeShelfModel", "programs", "[I", true)
  | 1 => ("FreeShelfModel", "p", "[I", true)
  | 2 => ("FreeShelfModel", "st", "[I", true)
  | 3 => ("FreeShelfModel", "starting", "Z", false)
  | 4 => ("FreeShelfModel", "hasEnded", "Z", false)
  | 5 => ("FreeShelfModel", "ownActs", "I", false)
  | 6 => ("FreeShelfModel", "pile", "[I", true)
  | 7 => ("FreeShelfModel", "piled", "I", false)
  | 8 => ("FreeShelfModel", "taken", "I", false)
  | 9 => ("FreeShelfModel", "sum", "I", false)
  | 10 => ("FreeShelfModel", "tried", "[I", true)
  | 11 => ("FreeShelfModel", "hasRun", "Z", false)
  | 12 => ("FreeShelfModel", "runMany", "I", false)
  | 13 => ("FreeShelfModel", "latest", "I", false)
  | 14 => ("FreeShelfModel", "run", "[I", true)
  | 15 => ("FreeShelfModel", "explores", "I", false)
  | 16 => ("FreeShelfModel", "isExplored", "Z", false)
  | 17 => ("FreeShelfModel", "many", "I", false)
  | 18 => ("FreeShelfModel", "isSpent", "Z", false)
  | 19 => ("FreeShelfModel", "ways", "I", false)
  | 20 => ("FreeShelfModel", "states", "[I", true)
  | 21 => ("FreeShelfModel", "sums", "[I", true)
  | 22 => ("FreeShelfModel", "heads", "[I", true)
  | 23 => ("FreeShelfModel", "chain", "[I", true)
  | 24 => ("FreeShelfModel", "next", "[I", true)
  | 25 => ("FreeShelfModel", "ends", "[Z", true)
  | 26 => ("FreeShelfModel", "from", "[I", true)
  | 27 => ("FreeShelfModel", "by", "[I", true)
  | 28 => ("FreeShelfModel", "marks", "[I", true)
  | 29 => ("FreeShelfModel", "waiting", "[I", true)
  | 30 => ("FreeShelfModel", "seen", "[Z", true)
  | _ => ("FreeShelfModel", "open", "[I", true)
def tyX9 : Nat → FieldType := fun k => match k with
  | 0 => .array .int
  | 1 => .array .int
  | 2 => .array .int
  | 3 => .boolean
  | 4 => .boolean
  | 5 => .int
  | 6 => .array .int
  | 7 => .int
  | 8 => .int
  | 9 => .int
  | 10 => .array .int
  | 11 => .boolean
  | 12 => .int
  | 13 => .int
  | 14 => .array .int
  | 15 => .int
  | 16 => .boolean
  | 17 => .int
  | 18 => .boolean
  | 19 => .int
  | 20 => .array .int
  | 21 => .array .int
  | 22 => .array .int
  | 23 => .array .int
  | 24 => .array .int
  | 25 => .array .boolean
  | 26 => .array .int
  | 27 => .array .int
  | 28 => .array .int
  | 29 => .array .int
  | 30 => .array .boolean
  | _ => .array .int
abbrev wsX90 : List Cond := u_ws RX9 TX9 32
theorem nmX9 : ∀ a, a < 32 → ∀ b, b < 32 → a ≠ b → (TX9 a).2.1 ≠ (TX9 b).2.1 := by decide +kernel
theorem tyX9_ok : ∀ k, k < 32 → parseFieldDescriptor (TX9 k).2.2.1 = some (tyX9 k) := by decide +kernel
abbrev cX9_init : ByteArray := prog_11_method_1_code
def yX9_init : MethodName := ⟨RX9, "<init>", "()V"⟩
abbrev cX9_in : ByteArray := prog_11_method_2_code
def yX9_in : MethodName := ⟨RX9, "in", "(JJJ)Z"⟩
abbrev cX9_use : ByteArray := prog_11_method_3_code
def yX9_use : MethodName := ⟨RX9, "use", "(I)V"⟩
abbrev cX9_keepProgram : ByteArray := prog_11_method_4_code
def yX9_keepProgram : MethodName := ⟨RX9, "keepProgram", "(I)V"⟩
abbrev cX9_isOwn : ByteArray := prog_11_method_6_code
def yX9_isOwn : MethodName := ⟨RX9, "isOwn", "(I)Z"⟩
abbrev cX9_isLocal : ByteArray := prog_11_method_7_code
def yX9_isLocal : MethodName := ⟨RX9, "isLocal", "(I)Z"⟩
abbrev cX9_isGlobal : ByteArray := prog_11_method_8_code
def yX9_isGlobal : MethodName := ⟨RX9, "isGlobal", "(I)Z"⟩
abbrev cX9_isBit : ByteArray := prog_11_method_9_code
def yX9_isBit : MethodName := ⟨RX9, "isBit", "(I)Z"⟩
abbrev cX9_isNumber : ByteArray := prog_11_method_10_code
def yX9_isNumber : MethodName := ⟨RX9, "isNumber", "(I)Z"⟩
abbrev cX9_isAct : ByteArray := prog_11_method_11_code
def yX9_isAct : MethodName := ⟨RX9, "isAct", "(IIII)Z"⟩
abbrev cX9_isRoutine : ByteArray := prog_11_method_12_code
def yX9_isRoutine : MethodName := ⟨RX9, "isRoutine", "(I)Z"⟩
abbrev cX9_act : ByteArray := prog_11_method_13_code
def yX9_act : MethodName := ⟨RX9, "act", "(IIIII)I"⟩
abbrev cX9_tear : ByteArray := prog_11_method_14_code
def yX9_tear : MethodName := ⟨RX9, "tear", "(II)I"⟩
abbrev cX9_means : ByteArray := prog_11_method_15_code
def yX9_means : MethodName := ⟨RX9, "means", "(II)I"⟩
abbrev cX9_hasAct : ByteArray := prog_11_method_16_code
def yX9_hasAct : MethodName := ⟨RX9, "hasAct", "(II)Z"⟩
abbrev cX9_moment : ByteArray := prog_11_method_17_code
def yX9_moment : MethodName := ⟨RX9, "moment", "(IIZ)I"⟩
abbrev cX9_call : ByteArray := prog_11_method_18_code
def yX9_call : MethodName := ⟨RX9, "call", "(III)I"⟩
abbrev cX9_clear : ByteArray := prog_11_method_19_code
def yX9_clear : MethodName := ⟨RX9, "clear", "()I"⟩
abbrev cX9_manner : ByteArray := prog_11_method_20_code
def yX9_manner : MethodName := ⟨RX9, "manner", "(I)I"⟩
abbrev cX9_late : ByteArray := prog_11_method_21_code
def yX9_late : MethodName := ⟨RX9, "late", "(Z)I"⟩
abbrev cX9_model : ByteArray := prog_11_method_22_code
def yX9_model : MethodName := ⟨RX9, "model", "(I)I"⟩
abbrev cX9_told : ByteArray := prog_11_method_23_code
def yX9_told : MethodName := ⟨RX9, "told", "(III)I"⟩
abbrev cX9_numberOf : ByteArray := prog_11_method_24_code
def yX9_numberOf : MethodName := ⟨RX9, "numberOf", "(I)I"⟩
abbrev cX9_nodeOf : ByteArray := prog_11_method_25_code
def yX9_nodeOf : MethodName := ⟨RX9, "nodeOf", "(I)I"⟩
abbrev cX9_asNumber : ByteArray := prog_11_method_26_code
def yX9_asNumber : MethodName := ⟨RX9, "asNumber", "(I)I"⟩
abbrev cX9_asNode : ByteArray := prog_11_method_27_code
def yX9_asNode : MethodName := ⟨RX9, "asNode", "(I)I"⟩
abbrev cX9_alike : ByteArray := prog_11_method_28_code
def yX9_alike : MethodName := ⟨RX9, "alike", "(II)Z"⟩
abbrev cX9_countOf : ByteArray := prog_11_method_29_code
def yX9_countOf : MethodName := ⟨RX9, "countOf", "(I)I"⟩
abbrev cX9_becomes : ByteArray := prog_11_method_30_code
def yX9_becomes : MethodName := ⟨RX9, "becomes", "(II)V"⟩
abbrev cX9_at : ByteArray := prog_11_method_31_code
def yX9_at : MethodName := ⟨RX9, "at", "(I)I"⟩
abbrev cX9_localOf : ByteArray := prog_11_method_32_code
def yX9_localOf : MethodName := ⟨RX9, "localOf", "(II)I"⟩
abbrev cX9_setLocal : ByteArray := prog_11_method_33_code
def yX9_setLocal : MethodName := ⟨RX9, "setLocal", "(III)V"⟩
abbrev cX9_comes : ByteArray := prog_11_method_34_code
def yX9_comes : MethodName := ⟨RX9, "comes", "(I)V"⟩
abbrev cX9_flush : ByteArray := prog_11_method_35_code
def yX9_flush : MethodName := ⟨RX9, "flush", "(I)V"⟩
abbrev cX9_isLate : ByteArray := prog_11_method_36_code
def yX9_isLate : MethodName := ⟨RX9, "isLate", "()Z"⟩
abbrev cX9_writes : ByteArray := prog_11_method_37_code
def yX9_writes : MethodName := ⟨RX9, "writes", "(III)V"⟩
abbrev cX9_sees : ByteArray := prog_11_method_38_code
def yX9_sees : MethodName := ⟨RX9, "sees", "(II)I"⟩
abbrev cX9_isGuarded : ByteArray := prog_11_method_39_code
def yX9_isGuarded : MethodName := ⟨RX9, "isGuarded", "(I)Z"⟩
abbrev cX9_looks : ByteArray := prog_11_method_40_code
def yX9_looks : MethodName := ⟨RX9, "looks", "()V"⟩
abbrev cX9_epochMoves : ByteArray := prog_11_method_41_code
def yX9_epochMoves : MethodName := ⟨RX9, "epochMoves", "()V"⟩
abbrev cX9_routineOf : ByteArray := prog_11_method_42_code
def yX9_routineOf : MethodName := ⟨RX9, "routineOf", "(I)I"⟩
abbrev cX9_opAt : ByteArray := prog_11_method_43_code
def yX9_opAt : MethodName := ⟨RX9, "opAt", "(I)I"⟩
abbrev cX9_argumentOf : ByteArray := prog_11_method_44_code
def yX9_argumentOf : MethodName := ⟨RX9, "argumentOf", "(II)I"⟩
abbrev cX9_finds : ByteArray := prog_11_method_45_code
def yX9_finds : MethodName := ⟨RX9, "finds", "(II)V"⟩
abbrev cX9_begins : ByteArray := prog_11_method_46_code
def yX9_begins : MethodName := ⟨RX9, "begins", "(I)V"⟩
abbrev cX9_owns : ByteArray := prog_11_method_47_code
def yX9_owns : MethodName := ⟨RX9, "owns", "(I)V"⟩
abbrev cX9_own : ByteArray := prog_11_method_48_code
def yX9_own : MethodName := ⟨RX9, "own", "(I)V"⟩
abbrev cX9_notNode : ByteArray := prog_11_method_49_code
def yX9_notNode : MethodName := ⟨RX9, "notNode", "(II)I"⟩
abbrev cX9_isFree : ByteArray := prog_11_method_50_code
def yX9_isFree : MethodName := ⟨RX9, "isFree", "(II)Z"⟩
abbrev cX9_field : ByteArray := prog_11_method_51_code
def yX9_field : MethodName := ⟨RX9, "field", "(III)I"⟩
abbrev cX9_meets : ByteArray := prog_11_method_52_code
def yX9_meets : MethodName := ⟨RX9, "meets", "(IIII)I"⟩
abbrev cX9_swaps : ByteArray := prog_11_method_53_code
def yX9_swaps : MethodName := ⟨RX9, "swaps", "(IIII)V"⟩
abbrev cX9_happens : ByteArray := prog_11_method_54_code
def yX9_happens : MethodName := ⟨RX9, "happens", "(I)V"⟩
abbrev cX9_memory : ByteArray := prog_11_method_55_code
def yX9_memory : MethodName := ⟨RX9, "memory", "(I)V"⟩
abbrev cX9_adds : ByteArray := prog_11_method_56_code
def yX9_adds : MethodName := ⟨RX9, "adds", "(III)V"⟩
abbrev cX9_other : ByteArray := prog_11_method_57_code
def yX9_other : MethodName := ⟨RX9, "other", "(IIII)V"⟩
abbrev cX9_returns : ByteArray := prog_11_method_58_code
def yX9_returns : MethodName := ⟨RX9, "returns", "(II)V"⟩
abbrev cX9_steps : ByteArray := prog_11_method_59_code
def yX9_steps : MethodName := ⟨RX9, "steps", "(I)V"⟩
abbrev cX9_isThere : ByteArray := prog_11_method_60_code
def yX9_isThere : MethodName := ⟨RX9, "isThere", "(I)Z"⟩
abbrev cX9_chooses : ByteArray := prog_11_method_61_code
def yX9_chooses : MethodName := ⟨RX9, "chooses", "(I)V"⟩
abbrev cX9_prepared : ByteArray := prog_11_method_62_code
def yX9_prepared : MethodName := ⟨RX9, "prepared", "()I"⟩
abbrev cX9_says : ByteArray := prog_11_method_63_code
def yX9_says : MethodName := ⟨RX9, "says", "(IIIZ)Z"⟩
abbrev cX9_takes : ByteArray := prog_11_method_64_code
def yX9_takes : MethodName := ⟨RX9, "takes", "(I)I"⟩
abbrev cX9_fits : ByteArray := prog_11_method_65_code
def yX9_fits : MethodName := ⟨RX9, "fits", "(I)Z"⟩
abbrev cX9_callMany : ByteArray := prog_11_method_66_code
def yX9_callMany : MethodName := ⟨RX9, "callMany", "()I"⟩
abbrev cX9_isCall : ByteArray := prog_11_method_67_code
def yX9_isCall : MethodName := ⟨RX9, "isCall", "(I)Z"⟩
abbrev cX9_hasFinding : ByteArray := prog_11_method_68_code
def yX9_hasFinding : MethodName := ⟨RX9, "hasFinding", "()Z"⟩
abbrev cX9_isEnd : ByteArray := prog_11_method_69_code
def yX9_isEnd : MethodName := ⟨RX9, "isEnd", "()Z"⟩
abbrev cX9_agreesNow : ByteArray := prog_11_method_70_code
def yX9_agreesNow : MethodName := ⟨RX9, "agreesNow", "()Z"⟩
abbrev cX9_mayStand : ByteArray := prog_11_method_71_code
def yX9_mayStand : MethodName := ⟨RX9, "mayStand", "(III)Z"⟩
abbrev cX9_keepsNow : ByteArray := prog_11_method_72_code
def yX9_keepsNow : MethodName := ⟨RX9, "keepsNow", "()Z"⟩
abbrev cX9_takeRun : ByteArray := prog_11_method_73_code
def yX9_takeRun : MethodName := ⟨RX9, "takeRun", "()V"⟩
abbrev cX9_keepRun : ByteArray := prog_11_method_74_code
def yX9_keepRun : MethodName := ⟨RX9, "keepRun", "()V"⟩
abbrev cX9_begin : ByteArray := prog_11_method_75_code
def yX9_begin : MethodName := ⟨RX9, "begin", "()I"⟩
abbrev cX9_step : ByteArray := prog_11_method_76_code
def yX9_step : MethodName := ⟨RX9, "step", "(I)I"⟩
abbrev cX9_may : ByteArray := prog_11_method_77_code
def yX9_may : MethodName := ⟨RX9, "may", "(I)I"⟩
abbrev cX9_run : ByteArray := prog_11_method_78_code
def yX9_run : MethodName := ⟨RX9, "run", "(I)I"⟩
abbrev cX9_whatOf : ByteArray := prog_11_method_79_code
def yX9_whatOf : MethodName := ⟨RX9, "whatOf", "(II)I"⟩
abbrev cX9_word : ByteArray := prog_11_method_80_code
def yX9_word : MethodName := ⟨RX9, "word", "(II)I"⟩
abbrev cX9_local : ByteArray := prog_11_method_81_code
def yX9_local : MethodName := ⟨RX9, "local", "(III)I"⟩
abbrev cX9_node : ByteArray := prog_11_method_82_code
def yX9_node : MethodName := ⟨RX9, "node", "(I)I"⟩
abbrev cX9_thread : ByteArray := prog_11_method_83_code
def yX9_thread : MethodName := ⟨RX9, "thread", "(II)I"⟩
abbrev cX9_answer : ByteArray := prog_11_method_84_code
def yX9_answer : MethodName := ⟨RX9, "answer", "(II)I"⟩
abbrev cX9_epoch : ByteArray := prog_11_method_85_code
def yX9_epoch : MethodName := ⟨RX9, "epoch", "()I"⟩
abbrev cX9_agrees : ByteArray := prog_11_method_86_code
def yX9_agrees : MethodName := ⟨RX9, "agrees", "()I"⟩
abbrev cX9_keeps : ByteArray := prog_11_method_87_code
def yX9_keeps : MethodName := ⟨RX9, "keeps", "()I"⟩
abbrev cX9_load : ByteArray := prog_11_method_88_code
def yX9_load : MethodName := ⟨RX9, "load", "(I)V"⟩
abbrev cX9_sumNow : ByteArray := prog_11_method_89_code
def yX9_sumNow : MethodName := ⟨RX9, "sumNow", "()I"⟩
abbrev cX9_found : ByteArray := prog_11_method_90_code
def yX9_found : MethodName := ⟨RX9, "found", "(I)I"⟩
abbrev cX9_keep : ByteArray := prog_11_method_91_code
def yX9_keep : MethodName := ⟨RX9, "keep", "(III)V"⟩
abbrev cX9_explore : ByteArray := prog_11_method_92_code
def yX9_explore : MethodName := ⟨RX9, "explore", "()I"⟩
abbrev cX9_goesOn : ByteArray := prog_11_method_93_code
def yX9_goesOn : MethodName := ⟨RX9, "goesOn", "(II)V"⟩
abbrev cX9_marked : ByteArray := prog_11_method_94_code
def yX9_marked : MethodName := ⟨RX9, "marked", "(II)I"⟩
abbrev cX9_mostWaiting : ByteArray := prog_11_method_95_code
def yX9_mostWaiting : MethodName := ⟨RX9, "mostWaiting", "()I"⟩
abbrev cX9_explored : ByteArray := prog_11_method_96_code
def yX9_explored : MethodName := ⟨RX9, "explored", "(I)I"⟩
abbrev cX9_firstMarked : ByteArray := prog_11_method_97_code
def yX9_firstMarked : MethodName := ⟨RX9, "firstMarked", "(II)I"⟩
abbrev cX9_isAlone : ByteArray := prog_11_method_98_code
def yX9_isAlone : MethodName := ⟨RX9, "isAlone", "(II)Z"⟩
abbrev cX9_firstNotAlone : ByteArray := prog_11_method_99_code
def yX9_firstNotAlone : MethodName := ⟨RX9, "firstNotAlone", "()I"⟩
abbrev cX9_isInRing : ByteArray := prog_11_method_100_code
def yX9_isInRing : MethodName := ⟨RX9, "isInRing", "(I)Z"⟩
abbrev cX9_firstInRing : ByteArray := prog_11_method_101_code
def yX9_firstInRing : MethodName := ⟨RX9, "firstInRing", "()I"⟩
abbrev cX9_first : ByteArray := prog_11_method_102_code
def yX9_first : MethodName := ⟨RX9, "first", "(I)I"⟩
abbrev cX9_endAt : ByteArray := prog_11_method_103_code
def yX9_endAt : MethodName := ⟨RX9, "endAt", "(I)I"⟩
abbrev cX9_isState : ByteArray := prog_11_method_104_code
def yX9_isState : MethodName := ⟨RX9, "isState", "(I)Z"⟩
abbrev cX9_lengthOf : ByteArray := prog_11_method_105_code
def yX9_lengthOf : MethodName := ⟨RX9, "lengthOf", "(I)I"⟩
abbrev cX9_walk : ByteArray := prog_11_method_106_code
def yX9_walk : MethodName := ⟨RX9, "walk", "(II)I"⟩
abbrev cX9_next : ByteArray := prog_11_method_107_code
def yX9_next : MethodName := ⟨RX9, "next", "(II)I"⟩
abbrev cX9_go : ByteArray := prog_11_method_108_code
def yX9_go : MethodName := ⟨RX9, "go", "(I)I"⟩
abbrev cX9_answerAlike : ByteArray := prog_11_method_109_code
def yX9_answerAlike : MethodName := ⟨RX9, "answerAlike", "(II)Z"⟩
abbrev cX9_answers : ByteArray := prog_11_method_110_code
def yX9_answers : MethodName := ⟨RX9, "answers", "()I"⟩
def RJ9 : String := "java/lang/Math"
def TJ9 : u_T := fun k => match k with
  | _ => ("", "", "", false)
def tyJ9 : Nat → FieldType := fun k => match k with
  | _ => .int
abbrev wsJ90 : List Cond := u_ws RJ9 TJ9 0
theorem nmJ9 : ∀ a, a < 0 → ∀ b, b < 0 → a ≠ b → (TJ9 a).2.1 ≠ (TJ9 b).2.1 := by decide +kernel
theorem tyJ9_ok : ∀ k, k < 0 → parseFieldDescriptor (TJ9 k).2.2.1 = some (tyJ9 k) := by decide +kernel
abbrev cJ9_max_7cf53 : ByteArray := prog_12_method_65_code
def yJ9_max_7cf53 : MethodName := ⟨RJ9, "max", "(II)I"⟩
abbrev cJ9_min_7cf53 : ByteArray := prog_12_method_69_code
def yJ9_min_7cf53 : MethodName := ⟨RJ9, "min", "(II)I"⟩
def RJ10 : String := "java/lang/System"
def TJ10 : u_T := fun k => match k with
  | _ => ("", "", "", false)
def tyJ10 : Nat → FieldType := fun k => match k with
  | _ => .int
abbrev wsJ100 : List Cond := u_ws RJ10 TJ10 0
theorem nmJ10 : ∀ a, a < 0 → ∀ b, b < 0 → a ≠ b → (TJ10 a).2.1 ≠ (TJ10 b).2.1 := by decide +kernel
theorem tyJ10_ok : ∀ k, k < 0 → parseFieldDescriptor (TJ10 k).2.2.1 = some (tyJ10 k) := by decide +kernel
def RJ7 : String := "java/util/Arrays"
def TJ7 : u_T := fun k => match k with
  | _ => ("", "", "", false)
def tyJ7 : Nat → FieldType := fun k => match k with
  | _ => .int
abbrev wsJ70 : List Cond := u_ws RJ7 TJ7 0
theorem nmJ7 : ∀ a, a < 0 → ∀ b, b < 0 → a ≠ b → (TJ7 a).2.1 ≠ (TJ7 b).2.1 := by decide +kernel
theorem tyJ7_ok : ∀ k, k < 0 → parseFieldDescriptor (TJ7 k).2.2.1 = some (tyJ7 k) := by decide +kernel
abbrev cJ7_fill_53178 : ByteArray := prog_14_method_103_code
def yJ7_fill_53178 : MethodName := ⟨RJ7, "fill", "([II)V"⟩
def RL : String := "FreeShelfLaw"
abbrev cL_law : ByteArray := code
theorem dX0_init_0 : decode cX0_init 0 = .ok (.aload_n 0, 1) := by decide +kernel
theorem dX0_init_1 : decode cX0_init 1 = .ok (.invokespecial 3, 3) := by decide +kernel
theorem dX0_init_4 : decode cX0_init 4 = .ok (.aload_n 0, 1) := by decide +kernel
theorem dX0_init_5 : decode cX0_init 5 = .ok (.sipush 1500, 3) := by decide +kernel
theorem dX0_init_8 : decode cX0_init 8 = .ok (.newarray .int, 2) := by decide +kernel
theorem dX0_init_10 : decode cX0_init 10 = .ok (.putfield 9, 3) := by decide +kernel
theorem dX0_init_13 : decode cX0_init 13 = .ok (.aload_n 0, 1) := by decide +kernel
theorem dX0_init_14 : decode cX0_init 14 = .ok (.sipush 1500, 3) := by decide +kernel
theorem dX0_init_17 : decode cX0_init 17 = .ok (.newarray .int, 2) := by decide +kernel
theorem dX0_init_19 : decode cX0_init 19 = .ok (.putfield 15, 3) := by decide +kernel
theorem dX0_init_22 : decode cX0_init 22 = .ok (.aload_n 0, 1) := by decide +kernel
theorem dX0_init_23 : decode cX0_init 23 = .ok (.sipush 1500, 3) := by decide +kernel
theorem dX0_init_26 : decode cX0_init 26 = .ok (.newarray .int, 2) := by decide +kernel
theorem dX0_init_28 : decode cX0_init 28 = .ok (.putfield 18, 3) := by decide +kernel
theorem dX0_init_31 : decode cX0_init 31 = .ok (.aload_n 0, 1) := by decide +kernel
theorem dX0_init_32 : decode cX0_init 32 = .ok (.sipush 1500, 3) := by decide +kernel
theorem dX0_init_35 : decode cX0_init 35 = .ok (.newarray .int, 2) := by decide +kernel
theorem dX0_init_37 : decode cX0_init 37 = .ok (.putfield 21, 3) := by decide +kernel
theorem dX0_init_40 : decode cX0_init 40 = .ok (.aload_n 0, 1) := by decide +kernel
theorem dX0_init_41 : decode cX0_init 41 = .ok (.sipush 1500, 3) := by decide +kernel
theorem dX0_init_44 : decode cX0_init 44 = .ok (.newarray .int, 2) := by decide +kernel
theorem dX0_init_46 : decode cX0_init 46 = .ok (.putfield 24, 3) := by decide +kernel
theorem dX0_init_49 : decode cX0_init 49 = .ok (.aload_n 0, 1) := by decide +kernel
theorem dX0_init_50 : decode cX0_init 50 = .ok (.sipush 1500, 3) := by decide +kernel
theorem dX0_init_53 : decode cX0_init 53 = .ok (.newarray .boolean, 2) := by decide +kernel
theorem dX0_init_55 : decode cX0_init 55 = .ok (.putfield 27, 3) := by decide +kernel
theorem dX0_init_58 : decode cX0_init 58 = .ok (.aload_n 0, 1) := by decide +kernel
theorem dX0_init_59 : decode cX0_init 59 = .ok (.iconst 0, 1) := by decide +kernel
theorem dX0_init_60 : decode cX0_init 60 = .ok (.putfield 31, 3) := by decide +kernel
theorem dX0_init_63 : decode cX0_init 63 = .ok (.aload_n 0, 1) := by decide +kernel
theorem dX0_init_64 : decode cX0_init 64 = .ok (.iconst 0, 1) := by decide +kernel
theorem dX0_init_65 : decode cX0_init 65 = .ok (.putfield 35, 3) := by decide +kernel
theorem dX0_init_68 : decode cX0_init 68 = .ok (.aload_n 0, 1) := by decide +kernel
theorem dX0_init_69 : decode cX0_init 69 = .ok (.iconst 0, 1) := by decide +kernel
theorem dX0_init_70 : decode cX0_init 70 = .ok (.putfield 38, 3) := by decide +kernel
theorem dX0_init_73 : decode cX0_init 73 = .ok (.aload_n 0, 1) := by decide +kernel
theorem dX0_init_74 : decode cX0_init 74 = .ok (.bipush (-4), 2) := by decide +kernel
theorem dX0_init_76 : decode cX0_init 76 = .ok (.putfield 41, 3) := by decide +kernel
theorem dX0_init_79 : decode cX0_init 79 = .ok (.return_, 1) := by decide +kernel
theorem dX0_lowest_0 : decode cX0_lowest 0 = .ok (.aload_n 0, 1) := by decide +kernel
theorem dX0_lowest_1 : decode cX0_lowest 1 = .ok (.getfield 9, 3) := by decide +kernel
theorem dX0_lowest_4 : decode cX0_lowest 4 = .ok (.iconst 0, 1) := by decide +kernel
theorem dX0_lowest_5 : decode cX0_lowest 5 = .ok (.invokestatic 44, 3) := by decide +kernel
theorem dX0_lowest_8 : decode cX0_lowest 8 = .ok (.aload_n 0, 1) := by decide +kernel
theorem dX0_lowest_9 : decode cX0_lowest 9 = .ok (.getfield 18, 3) := by decide +kernel
theorem dX0_lowest_12 : decode cX0_lowest 12 = .ok (.iconst 0, 1) := by decide +kernel
theorem dX0_lowest_13 : decode cX0_lowest 13 = .ok (.invokestatic 44, 3) := by decide +kernel
theorem dX0_lowest_16 : decode cX0_lowest 16 = .ok (.aload_n 0, 1) := by decide +kernel
theorem dX0_lowest_17 : decode cX0_lowest 17 = .ok (.iconst 0, 1) := by decide +kernel
theorem dX0_lowest_18 : decode cX0_lowest 18 = .ok (.putfield 31, 3) := by decide +kernel
theorem dX0_lowest_21 : decode cX0_lowest 21 = .ok (.aload_n 0, 1) := by decide +kernel
theorem dX0_lowest_22 : decode cX0_lowest 22 = .ok (.iconst 0, 1) := by decide +kernel
theorem dX0_lowest_23 : decode cX0_lowest 23 = .ok (.putfield 35, 3) := by decide +kernel
theorem dX0_lowest_26 : decode cX0_lowest 26 = .ok (.aload_n 0, 1) := by decide +kernel
theorem dX0_lowest_27 : decode cX0_lowest 27 = .ok (.iconst 0, 1) := by decide +kernel
theorem dX0_lowest_28 : decode cX0_lowest 28 = .ok (.putfield 38, 3) := by decide +kernel
theorem dX0_lowest_31 : decode cX0_lowest 31 = .ok (.aload_n 0, 1) := by decide +kernel
theorem dX0_lowest_32 : decode cX0_lowest 32 = .ok (.bipush (-4), 2) := by decide +kernel
theorem dX0_lowest_34 : decode cX0_lowest 34 = .ok (.putfield 41, 3) := by decide +kernel
theorem dX0_lowest_37 : decode cX0_lowest 37 = .ok (.aload_n 0, 1) := by decide +kernel
theorem dX0_lowest_38 : decode cX0_lowest 38 = .ok (.iconst 0, 1) := by decide +kernel
theorem dX0_lowest_39 : decode cX0_lowest 39 = .ok (.invokevirtual 50, 3) := by decide +kernel
theorem dX0_lowest_42 : decode cX0_lowest 42 = .ok (.iconst 0, 1) := by decide +kernel
theorem dX0_lowest_43 : decode cX0_lowest 43 = .ok (.istore_n 3, 1) := by decide +kernel
theorem dX0_lowest_44 : decode cX0_lowest 44 = .ok (.iload_n 3, 1) := by decide +kernel
theorem dX0_lowest_45 : decode cX0_lowest 45 = .ok (.sipush 10500, 3) := by decide +kernel
theorem dX0_lowest_48 : decode cX0_lowest 48 = .ok (.if_icmp .ge 71, 3) := by decide +kernel
theorem dX0_lowest_51 : decode cX0_lowest 51 = .ok (.aload_n 0, 1) := by decide +kernel
theorem dX0_lowest_52 : decode cX0_lowest 52 = .ok (.getfield 35, 3) := by decide +kernel
theorem dX0_lowest_55 : decode cX0_lowest 55 = .ok (.ifCond .le 64, 3) := by decide +kernel
theorem dX0_lowest_58 : decode cX0_lowest 58 = .ok (.aload_n 0, 1) := by decide +kernel
theorem dX0_lowest_59 : decode cX0_lowest 59 = .ok (.getfield 21, 3) := by decide +kernel
theorem dX0_lowest_62 : decode cX0_lowest 62 = .ok (.aload_n 0, 1) := by decide +kernel
theorem dX0_lowest_63 : decode cX0_lowest 63 = .ok (.getfield 35, 3) := by decide +kernel
theorem dX0_lowest_66 : decode cX0_lowest 66 = .ok (.iconst 1, 1) := by decide +kernel
theorem dX0_lowest_67 : decode cX0_lowest 67 = .ok (.isub, 1) := by decide +kernel
theorem dX0_lowest_68 : decode cX0_lowest 68 = .ok (.iaload, 1) := by decide +kernel
theorem dX0_lowest_69 : decode cX0_lowest 69 = .ok (.istore 4, 2) := by decide +kernel
theorem dX0_lowest_71 : decode cX0_lowest 71 = .ok (.aload_n 0, 1) := by decide +kernel
theorem dX0_lowest_72 : decode cX0_lowest 72 = .ok (.getfield 18, 3) := by decide +kernel
theorem dX0_lowest_75 : decode cX0_lowest 75 = .ok (.iload 4, 2) := by decide +kernel
theorem dX0_lowest_77 : decode cX0_lowest 77 = .ok (.iaload, 1) := by decide +kernel
theorem dX0_lowest_78 : decode cX0_lowest 78 = .ok (.bipush 6, 2) := by decide +kernel
theorem dX0_lowest_80 : decode cX0_lowest 80 = .ok (.if_icmp .ge 27, 3) := by decide +kernel
theorem dX0_lowest_83 : decode cX0_lowest 83 = .ok (.aload_n 0, 1) := by decide +kernel
theorem dX0_lowest_84 : decode cX0_lowest 84 = .ok (.iload 4, 2) := by decide +kernel
theorem dX0_lowest_86 : decode cX0_lowest 86 = .ok (.aload_n 1, 1) := by decide +kernel
theorem dX0_lowest_87 : decode cX0_lowest 87 = .ok (.iload 4, 2) := by decide +kernel
theorem dX0_lowest_89 : decode cX0_lowest 89 = .ok (.bipush 6, 2) := by decide +kernel
theorem dX0_lowest_91 : decode cX0_lowest 91 = .ok (.imul, 1) := by decide +kernel
theorem dX0_lowest_92 : decode cX0_lowest 92 = .ok (.aload_n 0, 1) := by decide +kernel
theorem dX0_lowest_93 : decode cX0_lowest 93 = .ok (.getfield 18, 3) := by decide +kernel
theorem dX0_lowest_96 : decode cX0_lowest 96 = .ok (.iload 4, 2) := by decide +kernel
theorem dX0_lowest_98 : decode cX0_lowest 98 = .ok (.iaload, 1) := by decide +kernel
theorem dX0_lowest_99 : decode cX0_lowest 99 = .ok (.iadd, 1) := by decide +kernel
theorem dX0_lowest_100 : decode cX0_lowest 100 = .ok (.iaload, 1) := by decide +kernel
theorem dX0_lowest_101 : decode cX0_lowest 101 = .ok (.invokevirtual 54, 3) := by decide +kernel
theorem dX0_lowest_104 : decode cX0_lowest 104 = .ok (.goto 9, 3) := by decide +kernel
theorem dX0_lowest_107 : decode cX0_lowest 107 = .ok (.aload_n 0, 1) := by decide +kernel
theorem dX0_lowest_108 : decode cX0_lowest 108 = .ok (.iload 4, 2) := by decide +kernel
theorem dX0_lowest_110 : decode cX0_lowest 110 = .ok (.invokevirtual 58, 3) := by decide +kernel
theorem dX0_lowest_113 : decode cX0_lowest 113 = .ok (.iinc 3 1, 3) := by decide +kernel
theorem dX0_lowest_116 : decode cX0_lowest 116 = .ok (.goto (-72), 3) := by decide +kernel
theorem dX0_lowest_119 : decode cX0_lowest 119 = .ok (.aload_n 0, 1) := by decide +kernel
theorem dX0_lowest_120 : decode cX0_lowest 120 = .ok (.getfield 41, 3) := by decide +kernel
theorem dX0_lowest_123 : decode cX0_lowest 123 = .ok (.ireturn, 1) := by decide +kernel
theorem dX0_discover_0 : decode cX0_discover 0 = .ok (.aload_n 0, 1) := by decide +kernel
theorem dX0_discover_1 : decode cX0_discover 1 = .ok (.dup, 1) := by decide +kernel
theorem dX0_discover_2 : decode cX0_discover 2 = .ok (.getfield 31, 3) := by decide +kernel
theorem dX0_discover_5 : decode cX0_discover 5 = .ok (.iconst 1, 1) := by decide +kernel
theorem dX0_discover_6 : decode cX0_discover 6 = .ok (.iadd, 1) := by decide +kernel
theorem dX0_discover_7 : decode cX0_discover 7 = .ok (.putfield 31, 3) := by decide +kernel
theorem dX0_discover_10 : decode cX0_discover 10 = .ok (.aload_n 0, 1) := by decide +kernel
theorem dX0_discover_11 : decode cX0_discover 11 = .ok (.getfield 9, 3) := by decide +kernel
theorem dX0_discover_14 : decode cX0_discover 14 = .ok (.iload_n 1, 1) := by decide +kernel
theorem dX0_discover_15 : decode cX0_discover 15 = .ok (.aload_n 0, 1) := by decide +kernel
theorem dX0_discover_16 : decode cX0_discover 16 = .ok (.getfield 31, 3) := by decide +kernel
theorem dX0_discover_19 : decode cX0_discover 19 = .ok (.iastore, 1) := by decide +kernel
theorem dX0_discover_20 : decode cX0_discover 20 = .ok (.aload_n 0, 1) := by decide +kernel
theorem dX0_discover_21 : decode cX0_discover 21 = .ok (.getfield 15, 3) := by decide +kernel
theorem dX0_discover_24 : decode cX0_discover 24 = .ok (.iload_n 1, 1) := by decide +kernel
theorem dX0_discover_25 : decode cX0_discover 25 = .ok (.aload_n 0, 1) := by decide +kernel
theorem dX0_discover_26 : decode cX0_discover 26 = .ok (.getfield 31, 3) := by decide +kernel
theorem dX0_discover_29 : decode cX0_discover 29 = .ok (.iastore, 1) := by decide +kernel
theorem dX0_discover_30 : decode cX0_discover 30 = .ok (.aload_n 0, 1) := by decide +kernel
theorem dX0_discover_31 : decode cX0_discover 31 = .ok (.getfield 21, 3) := by decide +kernel
theorem dX0_discover_34 : decode cX0_discover 34 = .ok (.aload_n 0, 1) := by decide +kernel
theorem dX0_discover_35 : decode cX0_discover 35 = .ok (.getfield 35, 3) := by decide +kernel
theorem dX0_discover_38 : decode cX0_discover 38 = .ok (.iload_n 1, 1) := by decide +kernel
theorem dX0_discover_39 : decode cX0_discover 39 = .ok (.iastore, 1) := by decide +kernel
theorem dX0_discover_40 : decode cX0_discover 40 = .ok (.aload_n 0, 1) := by decide +kernel
theorem dX0_discover_41 : decode cX0_discover 41 = .ok (.dup, 1) := by decide +kernel
theorem dX0_discover_42 : decode cX0_discover 42 = .ok (.getfield 35, 3) := by decide +kernel
theorem dX0_discover_45 : decode cX0_discover 45 = .ok (.iconst 1, 1) := by decide +kernel
theorem dX0_discover_46 : decode cX0_discover 46 = .ok (.iadd, 1) := by decide +kernel
theorem dX0_discover_47 : decode cX0_discover 47 = .ok (.putfield 35, 3) := by decide +kernel
theorem dX0_discover_50 : decode cX0_discover 50 = .ok (.aload_n 0, 1) := by decide +kernel
theorem dX0_discover_51 : decode cX0_discover 51 = .ok (.getfield 24, 3) := by decide +kernel
theorem dX0_discover_54 : decode cX0_discover 54 = .ok (.aload_n 0, 1) := by decide +kernel
theorem dX0_discover_55 : decode cX0_discover 55 = .ok (.getfield 38, 3) := by decide +kernel
theorem dX0_discover_58 : decode cX0_discover 58 = .ok (.iload_n 1, 1) := by decide +kernel
theorem dX0_discover_59 : decode cX0_discover 59 = .ok (.iastore, 1) := by decide +kernel
theorem dX0_discover_60 : decode cX0_discover 60 = .ok (.aload_n 0, 1) := by decide +kernel
theorem dX0_discover_61 : decode cX0_discover 61 = .ok (.dup, 1) := by decide +kernel
theorem dX0_discover_62 : decode cX0_discover 62 = .ok (.getfield 38, 3) := by decide +kernel
theorem dX0_discover_65 : decode cX0_discover 65 = .ok (.iconst 1, 1) := by decide +kernel
theorem dX0_discover_66 : decode cX0_discover 66 = .ok (.iadd, 1) := by decide +kernel
theorem dX0_discover_67 : decode cX0_discover 67 = .ok (.putfield 38, 3) := by decide +kernel
theorem dX0_discover_70 : decode cX0_discover 70 = .ok (.aload_n 0, 1) := by decide +kernel
theorem dX0_discover_71 : decode cX0_discover 71 = .ok (.getfield 27, 3) := by decide +kernel
theorem dX0_discover_74 : decode cX0_discover 74 = .ok (.iload_n 1, 1) := by decide +kernel
theorem dX0_discover_75 : decode cX0_discover 75 = .ok (.iconst 1, 1) := by decide +kernel
theorem dX0_discover_76 : decode cX0_discover 76 = .ok (.bastore, 1) := by decide +kernel
theorem dX0_discover_77 : decode cX0_discover 77 = .ok (.return_, 1) := by decide +kernel
theorem dX0_tryNext_0 : decode cX0_tryNext 0 = .ok (.aload_n 0, 1) := by decide +kernel
theorem dX0_tryNext_1 : decode cX0_tryNext 1 = .ok (.getfield 18, 3) := by decide +kernel
theorem dX0_tryNext_4 : decode cX0_tryNext 4 = .ok (.iload_n 1, 1) := by decide +kernel
theorem dX0_tryNext_5 : decode cX0_tryNext 5 = .ok (.dup2, 1) := by decide +kernel
theorem dX0_tryNext_6 : decode cX0_tryNext 6 = .ok (.iaload, 1) := by decide +kernel
theorem dX0_tryNext_7 : decode cX0_tryNext 7 = .ok (.iconst 1, 1) := by decide +kernel
theorem dX0_tryNext_8 : decode cX0_tryNext 8 = .ok (.iadd, 1) := by decide +kernel
theorem dX0_tryNext_9 : decode cX0_tryNext 9 = .ok (.iastore, 1) := by decide +kernel
theorem dX0_tryNext_10 : decode cX0_tryNext 10 = .ok (.iload_n 2, 1) := by decide +kernel
theorem dX0_tryNext_11 : decode cX0_tryNext 11 = .ok (.bipush (-4), 2) := by decide +kernel
theorem dX0_tryNext_13 : decode cX0_tryNext 13 = .ok (.if_icmp .ne 4, 3) := by decide +kernel
theorem dX0_tryNext_16 : decode cX0_tryNext 16 = .ok (.return_, 1) := by decide +kernel
theorem dX0_tryNext_17 : decode cX0_tryNext 17 = .ok (.iload_n 2, 1) := by decide +kernel
theorem dX0_tryNext_18 : decode cX0_tryNext 18 = .ok (.iload_n 1, 1) := by decide +kernel
theorem dX0_tryNext_19 : decode cX0_tryNext 19 = .ok (.if_icmp .ne 11, 3) := by decide +kernel
theorem dX0_tryNext_22 : decode cX0_tryNext 22 = .ok (.aload_n 0, 1) := by decide +kernel
theorem dX0_tryNext_23 : decode cX0_tryNext 23 = .ok (.iload_n 1, 1) := by decide +kernel
theorem dX0_tryNext_24 : decode cX0_tryNext 24 = .ok (.invokevirtual 61, 3) := by decide +kernel
theorem dX0_tryNext_27 : decode cX0_tryNext 27 = .ok (.goto 50, 3) := by decide +kernel
theorem dX0_tryNext_30 : decode cX0_tryNext 30 = .ok (.aload_n 0, 1) := by decide +kernel
theorem dX0_tryNext_31 : decode cX0_tryNext 31 = .ok (.getfield 9, 3) := by decide +kernel
theorem dX0_tryNext_34 : decode cX0_tryNext 34 = .ok (.iload_n 2, 1) := by decide +kernel
theorem dX0_tryNext_35 : decode cX0_tryNext 35 = .ok (.iaload, 1) := by decide +kernel
theorem dX0_tryNext_36 : decode cX0_tryNext 36 = .ok (.ifCond .ne 11, 3) := by decide +kernel
theorem dX0_tryNext_39 : decode cX0_tryNext 39 = .ok (.aload_n 0, 1) := by decide +kernel
theorem dX0_tryNext_40 : decode cX0_tryNext 40 = .ok (.iload_n 2, 1) := by decide +kernel
theorem dX0_tryNext_41 : decode cX0_tryNext 41 = .ok (.invokevirtual 50, 3) := by decide +kernel
theorem dX0_tryNext_44 : decode cX0_tryNext 44 = .ok (.goto 33, 3) := by decide +kernel
theorem dX0_tryNext_47 : decode cX0_tryNext 47 = .ok (.aload_n 0, 1) := by decide +kernel
theorem dX0_tryNext_48 : decode cX0_tryNext 48 = .ok (.getfield 27, 3) := by decide +kernel
theorem dX0_tryNext_51 : decode cX0_tryNext 51 = .ok (.iload_n 2, 1) := by decide +kernel
theorem dX0_tryNext_52 : decode cX0_tryNext 52 = .ok (.baload, 1) := by decide +kernel
theorem dX0_tryNext_53 : decode cX0_tryNext 53 = .ok (.ifCond .eq 24, 3) := by decide +kernel
theorem dX0_tryNext_56 : decode cX0_tryNext 56 = .ok (.aload_n 0, 1) := by decide +kernel
theorem dX0_tryNext_57 : decode cX0_tryNext 57 = .ok (.getfield 15, 3) := by decide +kernel
theorem dX0_tryNext_60 : decode cX0_tryNext 60 = .ok (.iload_n 1, 1) := by decide +kernel
theorem dX0_tryNext_61 : decode cX0_tryNext 61 = .ok (.aload_n 0, 1) := by decide +kernel
theorem dX0_tryNext_62 : decode cX0_tryNext 62 = .ok (.getfield 15, 3) := by decide +kernel
theorem dX0_tryNext_65 : decode cX0_tryNext 65 = .ok (.iload_n 1, 1) := by decide +kernel
theorem dX0_tryNext_66 : decode cX0_tryNext 66 = .ok (.iaload, 1) := by decide +kernel
theorem dX0_tryNext_67 : decode cX0_tryNext 67 = .ok (.aload_n 0, 1) := by decide +kernel
theorem dX0_tryNext_68 : decode cX0_tryNext 68 = .ok (.getfield 9, 3) := by decide +kernel
theorem dX0_tryNext_71 : decode cX0_tryNext 71 = .ok (.iload_n 2, 1) := by decide +kernel
theorem dX0_tryNext_72 : decode cX0_tryNext 72 = .ok (.iaload, 1) := by decide +kernel
theorem dX0_tryNext_73 : decode cX0_tryNext 73 = .ok (.invokestatic 64, 3) := by decide +kernel
theorem dX0_tryNext_76 : decode cX0_tryNext 76 = .ok (.iastore, 1) := by decide +kernel
theorem dX0_tryNext_77 : decode cX0_tryNext 77 = .ok (.return_, 1) := by decide +kernel
theorem dX0_leave_0 : decode cX0_leave 0 = .ok (.aload_n 0, 1) := by decide +kernel
theorem dX0_leave_1 : decode cX0_leave 1 = .ok (.dup, 1) := by decide +kernel
theorem dX0_leave_2 : decode cX0_leave 2 = .ok (.getfield 35, 3) := by decide +kernel
theorem dX0_leave_5 : decode cX0_leave 5 = .ok (.iconst 1, 1) := by decide +kernel
theorem dX0_leave_6 : decode cX0_leave 6 = .ok (.isub, 1) := by decide +kernel
theorem dX0_leave_7 : decode cX0_leave 7 = .ok (.putfield 35, 3) := by decide +kernel
theorem dX0_leave_10 : decode cX0_leave 10 = .ok (.aload_n 0, 1) := by decide +kernel
theorem dX0_leave_11 : decode cX0_leave 11 = .ok (.getfield 35, 3) := by decide +kernel
theorem dX0_leave_14 : decode cX0_leave 14 = .ok (.ifCond .le 36, 3) := by decide +kernel
theorem dX0_leave_17 : decode cX0_leave 17 = .ok (.aload_n 0, 1) := by decide +kernel
theorem dX0_leave_18 : decode cX0_leave 18 = .ok (.getfield 21, 3) := by decide +kernel
theorem dX0_leave_21 : decode cX0_leave 21 = .ok (.aload_n 0, 1) := by decide +kernel
theorem dX0_leave_22 : decode cX0_leave 22 = .ok (.getfield 35, 3) := by decide +kernel
theorem dX0_leave_25 : decode cX0_leave 25 = .ok (.iconst 1, 1) := by decide +kernel
theorem dX0_leave_26 : decode cX0_leave 26 = .ok (.isub, 1) := by decide +kernel
theorem dX0_leave_27 : decode cX0_leave 27 = .ok (.iaload, 1) := by decide +kernel
theorem dX0_leave_28 : decode cX0_leave 28 = .ok (.istore_n 2, 1) := by decide +kernel
theorem dX0_leave_29 : decode cX0_leave 29 = .ok (.aload_n 0, 1) := by decide +kernel
theorem dX0_leave_30 : decode cX0_leave 30 = .ok (.getfield 15, 3) := by decide +kernel
theorem dX0_leave_33 : decode cX0_leave 33 = .ok (.iload_n 2, 1) := by decide +kernel
theorem dX0_leave_34 : decode cX0_leave 34 = .ok (.aload_n 0, 1) := by decide +kernel
theorem dX0_leave_35 : decode cX0_leave 35 = .ok (.getfield 15, 3) := by decide +kernel
theorem dX0_leave_38 : decode cX0_leave 38 = .ok (.iload_n 2, 1) := by decide +kernel
theorem dX0_leave_39 : decode cX0_leave 39 = .ok (.iaload, 1) := by decide +kernel
theorem dX0_leave_40 : decode cX0_leave 40 = .ok (.aload_n 0, 1) := by decide +kernel
theorem dX0_leave_41 : decode cX0_leave 41 = .ok (.getfield 15, 3) := by decide +kernel
theorem dX0_leave_44 : decode cX0_leave 44 = .ok (.iload_n 1, 1) := by decide +kernel
theorem dX0_leave_45 : decode cX0_leave 45 = .ok (.iaload, 1) := by decide +kernel
theorem dX0_leave_46 : decode cX0_leave 46 = .ok (.invokestatic 64, 3) := by decide +kernel
theorem dX0_leave_49 : decode cX0_leave 49 = .ok (.iastore, 1) := by decide +kernel
theorem dX0_leave_50 : decode cX0_leave 50 = .ok (.aload_n 0, 1) := by decide +kernel
theorem dX0_leave_51 : decode cX0_leave 51 = .ok (.getfield 15, 3) := by decide +kernel
theorem dX0_leave_54 : decode cX0_leave 54 = .ok (.iload_n 1, 1) := by decide +kernel
theorem dX0_leave_55 : decode cX0_leave 55 = .ok (.iaload, 1) := by decide +kernel
theorem dX0_leave_56 : decode cX0_leave 56 = .ok (.aload_n 0, 1) := by decide +kernel
theorem dX0_leave_57 : decode cX0_leave 57 = .ok (.getfield 9, 3) := by decide +kernel
theorem dX0_leave_60 : decode cX0_leave 60 = .ok (.iload_n 1, 1) := by decide +kernel
theorem dX0_leave_61 : decode cX0_leave 61 = .ok (.iaload, 1) := by decide +kernel
theorem dX0_leave_62 : decode cX0_leave 62 = .ok (.if_icmp .ne 8, 3) := by decide +kernel
theorem dX0_leave_65 : decode cX0_leave 65 = .ok (.aload_n 0, 1) := by decide +kernel
theorem dX0_leave_66 : decode cX0_leave 66 = .ok (.iload_n 1, 1) := by decide +kernel
theorem dX0_leave_67 : decode cX0_leave 67 = .ok (.invokevirtual 70, 3) := by decide +kernel
theorem dX0_leave_70 : decode cX0_leave 70 = .ok (.return_, 1) := by decide +kernel
theorem dX0_close_0 : decode cX0_close 0 = .ok (.aload_n 0, 1) := by decide +kernel
theorem dX0_close_1 : decode cX0_close 1 = .ok (.getfield 24, 3) := by decide +kernel
theorem dX0_close_4 : decode cX0_close 4 = .ok (.aload_n 0, 1) := by decide +kernel
theorem dX0_close_5 : decode cX0_close 5 = .ok (.getfield 38, 3) := by decide +kernel
theorem dX0_close_8 : decode cX0_close 8 = .ok (.iconst 1, 1) := by decide +kernel
theorem dX0_close_9 : decode cX0_close 9 = .ok (.isub, 1) := by decide +kernel
theorem dX0_close_10 : decode cX0_close 10 = .ok (.iaload, 1) := by decide +kernel
theorem dX0_close_11 : decode cX0_close 11 = .ok (.iload_n 1, 1) := by decide +kernel
theorem dX0_close_12 : decode cX0_close 12 = .ok (.if_icmp .ne 7, 3) := by decide +kernel
theorem dX0_close_15 : decode cX0_close 15 = .ok (.iconst 1, 1) := by decide +kernel
theorem dX0_close_16 : decode cX0_close 16 = .ok (.goto 4, 3) := by decide +kernel
theorem dX0_close_19 : decode cX0_close 19 = .ok (.iconst 0, 1) := by decide +kernel
theorem dX0_close_20 : decode cX0_close 20 = .ok (.istore_n 2, 1) := by decide +kernel
theorem dX0_close_21 : decode cX0_close 21 = .ok (.aload_n 0, 1) := by decide +kernel
theorem dX0_close_22 : decode cX0_close 22 = .ok (.getfield 38, 3) := by decide +kernel
theorem dX0_close_25 : decode cX0_close 25 = .ok (.iconst 1, 1) := by decide +kernel
theorem dX0_close_26 : decode cX0_close 26 = .ok (.isub, 1) := by decide +kernel
theorem dX0_close_27 : decode cX0_close 27 = .ok (.istore_n 3, 1) := by decide +kernel
theorem dX0_close_28 : decode cX0_close 28 = .ok (.iload_n 3, 1) := by decide +kernel
theorem dX0_close_29 : decode cX0_close 29 = .ok (.ifCond .lt 49, 3) := by decide +kernel
theorem dX0_close_32 : decode cX0_close 32 = .ok (.aload_n 0, 1) := by decide +kernel
theorem dX0_close_33 : decode cX0_close 33 = .ok (.getfield 24, 3) := by decide +kernel
theorem dX0_close_36 : decode cX0_close 36 = .ok (.iload_n 3, 1) := by decide +kernel
theorem dX0_close_37 : decode cX0_close 37 = .ok (.iaload, 1) := by decide +kernel
theorem dX0_close_38 : decode cX0_close 38 = .ok (.istore 4, 2) := by decide +kernel
theorem dX0_close_40 : decode cX0_close 40 = .ok (.aload_n 0, 1) := by decide +kernel
theorem dX0_close_41 : decode cX0_close 41 = .ok (.getfield 27, 3) := by decide +kernel
theorem dX0_close_44 : decode cX0_close 44 = .ok (.iload 4, 2) := by decide +kernel
theorem dX0_close_46 : decode cX0_close 46 = .ok (.iconst 0, 1) := by decide +kernel
theorem dX0_close_47 : decode cX0_close 47 = .ok (.bastore, 1) := by decide +kernel
theorem dX0_close_48 : decode cX0_close 48 = .ok (.aload_n 0, 1) := by decide +kernel
theorem dX0_close_49 : decode cX0_close 49 = .ok (.iload_n 3, 1) := by decide +kernel
theorem dX0_close_50 : decode cX0_close 50 = .ok (.putfield 38, 3) := by decide +kernel
theorem dX0_close_53 : decode cX0_close 53 = .ok (.iload_n 2, 1) := by decide +kernel
theorem dX0_close_54 : decode cX0_close 54 = .ok (.ifCond .ne 9, 3) := by decide +kernel
theorem dX0_close_57 : decode cX0_close 57 = .ok (.aload_n 0, 1) := by decide +kernel
theorem dX0_close_58 : decode cX0_close 58 = .ok (.iload 4, 2) := by decide +kernel
theorem dX0_close_60 : decode cX0_close 60 = .ok (.invokevirtual 61, 3) := by decide +kernel
theorem dX0_close_63 : decode cX0_close 63 = .ok (.iload 4, 2) := by decide +kernel
theorem dX0_close_65 : decode cX0_close 65 = .ok (.iload_n 1, 1) := by decide +kernel
theorem dX0_close_66 : decode cX0_close 66 = .ok (.if_icmp .ne 6, 3) := by decide +kernel
theorem dX0_close_69 : decode cX0_close 69 = .ok (.goto 9, 3) := by decide +kernel
theorem dX0_close_72 : decode cX0_close 72 = .ok (.iinc 3 (-1), 3) := by decide +kernel
theorem dX0_close_75 : decode cX0_close 75 = .ok (.goto (-47), 3) := by decide +kernel
theorem dX0_close_78 : decode cX0_close 78 = .ok (.return_, 1) := by decide +kernel
theorem dX0_note_0 : decode cX0_note 0 = .ok (.aload_n 0, 1) := by decide +kernel
theorem dX0_note_1 : decode cX0_note 1 = .ok (.getfield 41, 3) := by decide +kernel
theorem dX0_note_4 : decode cX0_note 4 = .ok (.bipush (-4), 2) := by decide +kernel
theorem dX0_note_6 : decode cX0_note 6 = .ok (.if_icmp .eq 11, 3) := by decide +kernel
theorem dX0_note_9 : decode cX0_note 9 = .ok (.iload_n 1, 1) := by decide +kernel
theorem dX0_note_10 : decode cX0_note 10 = .ok (.aload_n 0, 1) := by decide +kernel
theorem dX0_note_11 : decode cX0_note 11 = .ok (.getfield 41, 3) := by decide +kernel
theorem dX0_note_14 : decode cX0_note 14 = .ok (.if_icmp .ge 8, 3) := by decide +kernel
theorem dX0_note_17 : decode cX0_note 17 = .ok (.aload_n 0, 1) := by decide +kernel
theorem dX0_note_18 : decode cX0_note 18 = .ok (.iload_n 1, 1) := by decide +kernel
theorem dX0_note_19 : decode cX0_note 19 = .ok (.putfield 41, 3) := by decide +kernel
theorem dX0_note_22 : decode cX0_note 22 = .ok (.return_, 1) := by decide +kernel
theorem dX3_init_0 : decode cX3_init 0 = .ok (.aload_n 0, 1) := by decide +kernel
theorem dX3_init_1 : decode cX3_init 1 = .ok (.invokespecial 5, 3) := by decide +kernel
theorem dX3_init_4 : decode cX3_init 4 = .ok (.aload_n 0, 1) := by decide +kernel
theorem dX3_init_5 : decode cX3_init 5 = .ok (.bipush 7, 2) := by decide +kernel
theorem dX3_init_7 : decode cX3_init 7 = .ok (.bipush 13, 2) := by decide +kernel
theorem dX3_init_9 : decode cX3_init 9 = .ok (.multianewarray 11 2, 4) := by decide +kernel
theorem dX3_init_13 : decode cX3_init 13 = .ok (.putfield 13, 3) := by decide +kernel
theorem dX3_init_16 : decode cX3_init 16 = .ok (.return_, 1) := by decide +kernel
theorem dX3_findsOrder_0 : decode cX3_findsOrder 0 = .ok (.aload_n 1, 1) := by decide +kernel
theorem dX3_findsOrder_1 : decode cX3_findsOrder 1 = .ok (.invokevirtual 16, 3) := by decide +kernel
theorem dX3_findsOrder_4 : decode cX3_findsOrder 4 = .ok (.ifCond .eq 5, 3) := by decide +kernel
theorem dX3_findsOrder_7 : decode cX3_findsOrder 7 = .ok (.iconst 0, 1) := by decide +kernel
theorem dX3_findsOrder_8 : decode cX3_findsOrder 8 = .ok (.ireturn, 1) := by decide +kernel
theorem dX3_findsOrder_9 : decode cX3_findsOrder 9 = .ok (.aload_n 1, 1) := by decide +kernel
theorem dX3_findsOrder_10 : decode cX3_findsOrder 10 = .ok (.getfield 22, 3) := by decide +kernel
theorem dX3_findsOrder_13 : decode cX3_findsOrder 13 = .ok (.getfield 26, 3) := by decide +kernel
theorem dX3_findsOrder_16 : decode cX3_findsOrder 16 = .ok (.ifCond .ne 5, 3) := by decide +kernel
theorem dX3_findsOrder_19 : decode cX3_findsOrder 19 = .ok (.iconst 1, 1) := by decide +kernel
theorem dX3_findsOrder_20 : decode cX3_findsOrder 20 = .ok (.ireturn, 1) := by decide +kernel
theorem dX3_findsOrder_21 : decode cX3_findsOrder 21 = .ok (.aload_n 0, 1) := by decide +kernel
theorem dX3_findsOrder_22 : decode cX3_findsOrder 22 = .ok (.aload_n 1, 1) := by decide +kernel
theorem dX3_findsOrder_23 : decode cX3_findsOrder 23 = .ok (.getfield 22, 3) := by decide +kernel
theorem dX3_findsOrder_26 : decode cX3_findsOrder 26 = .ok (.invokevirtual 32, 3) := by decide +kernel
theorem dX3_findsOrder_29 : decode cX3_findsOrder 29 = .ok (.aload_n 0, 1) := by decide +kernel
theorem dX3_findsOrder_30 : decode cX3_findsOrder 30 = .ok (.aload_n 1, 1) := by decide +kernel
theorem dX3_findsOrder_31 : decode cX3_findsOrder 31 = .ok (.iconst 0, 1) := by decide +kernel
theorem dX3_findsOrder_32 : decode cX3_findsOrder 32 = .ok (.iconst 0, 1) := by decide +kernel
theorem dX3_findsOrder_33 : decode cX3_findsOrder 33 = .ok (.invokevirtual 36, 3) := by decide +kernel
theorem dX3_findsOrder_36 : decode cX3_findsOrder 36 = .ok (.ireturn, 1) := by decide +kernel
theorem dX3_followsMoments_0 : decode cX3_followsMoments 0 = .ok (.aload_n 1, 1) := by decide +kernel
theorem dX3_followsMoments_1 : decode cX3_followsMoments 1 = .ok (.invokevirtual 16, 3) := by decide +kernel
theorem dX3_followsMoments_4 : decode cX3_followsMoments 4 = .ok (.ifCond .eq 5, 3) := by decide +kernel
theorem dX3_followsMoments_7 : decode cX3_followsMoments 7 = .ok (.iconst 0, 1) := by decide +kernel
theorem dX3_followsMoments_8 : decode cX3_followsMoments 8 = .ok (.ireturn, 1) := by decide +kernel
theorem dX3_followsMoments_9 : decode cX3_followsMoments 9 = .ok (.aload_n 0, 1) := by decide +kernel
theorem dX3_followsMoments_10 : decode cX3_followsMoments 10 = .ok (.aload_n 1, 1) := by decide +kernel
theorem dX3_followsMoments_11 : decode cX3_followsMoments 11 = .ok (.getfield 22, 3) := by decide +kernel
theorem dX3_followsMoments_14 : decode cX3_followsMoments 14 = .ok (.invokevirtual 32, 3) := by decide +kernel
theorem dX3_followsMoments_17 : decode cX3_followsMoments 17 = .ok (.aload_n 1, 1) := by decide +kernel
theorem dX3_followsMoments_18 : decode cX3_followsMoments 18 = .ok (.getfield 40, 3) := by decide +kernel
theorem dX3_followsMoments_21 : decode cX3_followsMoments 21 = .ok (.bipush 27, 2) := by decide +kernel
theorem dX3_followsMoments_23 : decode cX3_followsMoments 23 = .ok (.iaload, 1) := by decide +kernel
theorem dX3_followsMoments_24 : decode cX3_followsMoments 24 = .ok (.istore_n 2, 1) := by decide +kernel
theorem dX3_followsMoments_25 : decode cX3_followsMoments 25 = .ok (.iconst 0, 1) := by decide +kernel
theorem dX3_followsMoments_26 : decode cX3_followsMoments 26 = .ok (.istore_n 3, 1) := by decide +kernel
theorem dX3_followsMoments_27 : decode cX3_followsMoments 27 = .ok (.iload_n 3, 1) := by decide +kernel
theorem dX3_followsMoments_28 : decode cX3_followsMoments 28 = .ok (.aload_n 1, 1) := by decide +kernel
theorem dX3_followsMoments_29 : decode cX3_followsMoments 29 = .ok (.getfield 22, 3) := by decide +kernel
theorem dX3_followsMoments_32 : decode cX3_followsMoments 32 = .ok (.invokevirtual 46, 3) := by decide +kernel
theorem dX3_followsMoments_35 : decode cX3_followsMoments 35 = .ok (.if_icmp .ge 62, 3) := by decide +kernel
theorem dX3_followsMoments_38 : decode cX3_followsMoments 38 = .ok (.iload_n 3, 1) := by decide +kernel
theorem dX3_followsMoments_39 : decode cX3_followsMoments 39 = .ok (.bipush 6, 2) := by decide +kernel
theorem dX3_followsMoments_41 : decode cX3_followsMoments 41 = .ok (.if_icmp .ge 56, 3) := by decide +kernel
theorem dX3_followsMoments_44 : decode cX3_followsMoments 44 = .ok (.iload_n 2, 1) := by decide +kernel
theorem dX3_followsMoments_45 : decode cX3_followsMoments 45 = .ok (.iconst 4, 1) := by decide +kernel
theorem dX3_followsMoments_46 : decode cX3_followsMoments 46 = .ok (.iload_n 3, 1) := by decide +kernel
theorem dX3_followsMoments_47 : decode cX3_followsMoments 47 = .ok (.imul, 1) := by decide +kernel
theorem dX3_followsMoments_48 : decode cX3_followsMoments 48 = .ok (.ishr, 1) := by decide +kernel
theorem dX3_followsMoments_49 : decode cX3_followsMoments 49 = .ok (.bipush 15, 2) := by decide +kernel
theorem dX3_followsMoments_51 : decode cX3_followsMoments 51 = .ok (.iand, 1) := by decide +kernel
theorem dX3_followsMoments_52 : decode cX3_followsMoments 52 = .ok (.iconst 1, 1) := by decide +kernel
theorem dX3_followsMoments_53 : decode cX3_followsMoments 53 = .ok (.isub, 1) := by decide +kernel
theorem dX3_followsMoments_54 : decode cX3_followsMoments 54 = .ok (.istore 4, 2) := by decide +kernel
theorem dX3_followsMoments_56 : decode cX3_followsMoments 56 = .ok (.iload 4, 2) := by decide +kernel
theorem dX3_followsMoments_58 : decode cX3_followsMoments 58 = .ok (.ifCond .lt 31, 3) := by decide +kernel
theorem dX3_followsMoments_61 : decode cX3_followsMoments 61 = .ok (.aload_n 1, 1) := by decide +kernel
theorem dX3_followsMoments_62 : decode cX3_followsMoments 62 = .ok (.getfield 22, 3) := by decide +kernel
theorem dX3_followsMoments_65 : decode cX3_followsMoments 65 = .ok (.iload 4, 2) := by decide +kernel
theorem dX3_followsMoments_67 : decode cX3_followsMoments 67 = .ok (.aload_n 1, 1) := by decide +kernel
theorem dX3_followsMoments_68 : decode cX3_followsMoments 68 = .ok (.getfield 40, 3) := by decide +kernel
theorem dX3_followsMoments_71 : decode cX3_followsMoments 71 = .ok (.bipush 28, 2) := by decide +kernel
theorem dX3_followsMoments_73 : decode cX3_followsMoments 73 = .ok (.iload 4, 2) := by decide +kernel
theorem dX3_followsMoments_75 : decode cX3_followsMoments 75 = .ok (.iadd, 1) := by decide +kernel
theorem dX3_followsMoments_76 : decode cX3_followsMoments 76 = .ok (.iaload, 1) := by decide +kernel
theorem dX3_followsMoments_77 : decode cX3_followsMoments 77 = .ok (.aload_n 0, 1) := by decide +kernel
theorem dX3_followsMoments_78 : decode cX3_followsMoments 78 = .ok (.getfield 13, 3) := by decide +kernel
theorem dX3_followsMoments_81 : decode cX3_followsMoments 81 = .ok (.iconst 0, 1) := by decide +kernel
theorem dX3_followsMoments_82 : decode cX3_followsMoments 82 = .ok (.aaload, 1) := by decide +kernel
theorem dX3_followsMoments_83 : decode cX3_followsMoments 83 = .ok (.invokestatic 50, 3) := by decide +kernel
theorem dX3_followsMoments_86 : decode cX3_followsMoments 86 = .ok (.ifCond .ne 5, 3) := by decide +kernel
theorem dX3_followsMoments_89 : decode cX3_followsMoments 89 = .ok (.iconst 0, 1) := by decide +kernel
theorem dX3_followsMoments_90 : decode cX3_followsMoments 90 = .ok (.ireturn, 1) := by decide +kernel
theorem dX3_followsMoments_91 : decode cX3_followsMoments 91 = .ok (.iinc 3 1, 3) := by decide +kernel
theorem dX3_followsMoments_94 : decode cX3_followsMoments 94 = .ok (.goto (-67), 3) := by decide +kernel
theorem dX3_followsMoments_97 : decode cX3_followsMoments 97 = .ok (.iconst 1, 1) := by decide +kernel
theorem dX3_followsMoments_98 : decode cX3_followsMoments 98 = .ok (.ireturn, 1) := by decide +kernel
theorem dX3_fillFirstShelf_0 : decode cX3_fillFirstShelf 0 = .ok (.aload_n 0, 1) := by decide +kernel
theorem dX3_fillFirstShelf_1 : decode cX3_fillFirstShelf 1 = .ok (.getfield 13, 3) := by decide +kernel
theorem dX3_fillFirstShelf_4 : decode cX3_fillFirstShelf 4 = .ok (.iconst 0, 1) := by decide +kernel
theorem dX3_fillFirstShelf_5 : decode cX3_fillFirstShelf 5 = .ok (.aaload, 1) := by decide +kernel
theorem dX3_fillFirstShelf_6 : decode cX3_fillFirstShelf 6 = .ok (.iconst 0, 1) := by decide +kernel
theorem dX3_fillFirstShelf_7 : decode cX3_fillFirstShelf 7 = .ok (.invokestatic 54, 3) := by decide +kernel
theorem dX3_fillFirstShelf_10 : decode cX3_fillFirstShelf 10 = .ok (.iconst 0, 1) := by decide +kernel
theorem dX3_fillFirstShelf_11 : decode cX3_fillFirstShelf 11 = .ok (.istore_n 2, 1) := by decide +kernel
theorem dX3_fillFirstShelf_12 : decode cX3_fillFirstShelf 12 = .ok (.iload_n 2, 1) := by decide +kernel
theorem dX3_fillFirstShelf_13 : decode cX3_fillFirstShelf 13 = .ok (.aload_n 1, 1) := by decide +kernel
theorem dX3_fillFirstShelf_14 : decode cX3_fillFirstShelf 14 = .ok (.getfield 60, 3) := by decide +kernel
theorem dX3_fillFirstShelf_17 : decode cX3_fillFirstShelf 17 = .ok (.iconst 3, 1) := by decide +kernel
theorem dX3_fillFirstShelf_18 : decode cX3_fillFirstShelf 18 = .ok (.iaload, 1) := by decide +kernel
theorem dX3_fillFirstShelf_19 : decode cX3_fillFirstShelf 19 = .ok (.if_icmp .ge 25, 3) := by decide +kernel
theorem dX3_fillFirstShelf_22 : decode cX3_fillFirstShelf 22 = .ok (.aload_n 1, 1) := by decide +kernel
theorem dX3_fillFirstShelf_23 : decode cX3_fillFirstShelf 23 = .ok (.bipush 9, 2) := by decide +kernel
theorem dX3_fillFirstShelf_25 : decode cX3_fillFirstShelf 25 = .ok (.iload_n 2, 1) := by decide +kernel
theorem dX3_fillFirstShelf_26 : decode cX3_fillFirstShelf 26 = .ok (.iadd, 1) := by decide +kernel
theorem dX3_fillFirstShelf_27 : decode cX3_fillFirstShelf 27 = .ok (.iconst 0, 1) := by decide +kernel
theorem dX3_fillFirstShelf_28 : decode cX3_fillFirstShelf 28 = .ok (.aload_n 0, 1) := by decide +kernel
theorem dX3_fillFirstShelf_29 : decode cX3_fillFirstShelf 29 = .ok (.getfield 13, 3) := by decide +kernel
theorem dX3_fillFirstShelf_32 : decode cX3_fillFirstShelf 32 = .ok (.iconst 0, 1) := by decide +kernel
theorem dX3_fillFirstShelf_33 : decode cX3_fillFirstShelf 33 = .ok (.aaload, 1) := by decide +kernel
theorem dX3_fillFirstShelf_34 : decode cX3_fillFirstShelf 34 = .ok (.invokestatic 50, 3) := by decide +kernel
theorem dX3_fillFirstShelf_37 : decode cX3_fillFirstShelf 37 = .ok (.pop, 1) := by decide +kernel
theorem dX3_fillFirstShelf_38 : decode cX3_fillFirstShelf 38 = .ok (.iinc 2 1, 3) := by decide +kernel
theorem dX3_fillFirstShelf_41 : decode cX3_fillFirstShelf 41 = .ok (.goto (-29), 3) := by decide +kernel
theorem dX3_fillFirstShelf_44 : decode cX3_fillFirstShelf 44 = .ok (.return_, 1) := by decide +kernel
theorem dX3_extendOrder_0 : decode cX3_extendOrder 0 = .ok (.iload_n 2, 1) := by decide +kernel
theorem dX3_extendOrder_1 : decode cX3_extendOrder 1 = .ok (.aload_n 1, 1) := by decide +kernel
theorem dX3_extendOrder_2 : decode cX3_extendOrder 2 = .ok (.getfield 22, 3) := by decide +kernel
theorem dX3_extendOrder_5 : decode cX3_extendOrder 5 = .ok (.invokevirtual 46, 3) := by decide +kernel
theorem dX3_extendOrder_8 : decode cX3_extendOrder 8 = .ok (.if_icmp .ge 9, 3) := by decide +kernel
theorem dX3_extendOrder_11 : decode cX3_extendOrder 11 = .ok (.iload_n 2, 1) := by decide +kernel
theorem dX3_extendOrder_12 : decode cX3_extendOrder 12 = .ok (.bipush 6, 2) := by decide +kernel
theorem dX3_extendOrder_14 : decode cX3_extendOrder 14 = .ok (.if_icmp .lt 5, 3) := by decide +kernel
theorem dX3_extendOrder_17 : decode cX3_extendOrder 17 = .ok (.iconst 1, 1) := by decide +kernel
theorem dX3_extendOrder_18 : decode cX3_extendOrder 18 = .ok (.ireturn, 1) := by decide +kernel
theorem dX3_extendOrder_19 : decode cX3_extendOrder 19 = .ok (.iconst 0, 1) := by decide +kernel
theorem dX3_extendOrder_20 : decode cX3_extendOrder 20 = .ok (.istore 4, 2) := by decide +kernel
theorem dX3_extendOrder_22 : decode cX3_extendOrder 22 = .ok (.iload 4, 2) := by decide +kernel
theorem dX3_extendOrder_24 : decode cX3_extendOrder 24 = .ok (.bipush 9, 2) := by decide +kernel
theorem dX3_extendOrder_26 : decode cX3_extendOrder 26 = .ok (.if_icmp .ge 119, 3) := by decide +kernel
theorem dX3_extendOrder_29 : decode cX3_extendOrder 29 = .ok (.aload_n 1, 1) := by decide +kernel
theorem dX3_extendOrder_30 : decode cX3_extendOrder 30 = .ok (.iload 4, 2) := by decide +kernel
theorem dX3_extendOrder_32 : decode cX3_extendOrder 32 = .ok (.iload_n 3, 1) := by decide +kernel
theorem dX3_extendOrder_33 : decode cX3_extendOrder 33 = .ok (.invokestatic 63, 3) := by decide +kernel
theorem dX3_extendOrder_36 : decode cX3_extendOrder 36 = .ok (.ifCond .ne 6, 3) := by decide +kernel
theorem dX3_extendOrder_39 : decode cX3_extendOrder 39 = .ok (.goto 100, 3) := by decide +kernel
theorem dX3_extendOrder_42 : decode cX3_extendOrder 42 = .ok (.aload_n 0, 1) := by decide +kernel
theorem dX3_extendOrder_43 : decode cX3_extendOrder 43 = .ok (.getfield 13, 3) := by decide +kernel
theorem dX3_extendOrder_46 : decode cX3_extendOrder 46 = .ok (.iload_n 2, 1) := by decide +kernel
theorem dX3_extendOrder_47 : decode cX3_extendOrder 47 = .ok (.aaload, 1) := by decide +kernel
theorem dX3_extendOrder_48 : decode cX3_extendOrder 48 = .ok (.iconst 0, 1) := by decide +kernel
theorem dX3_extendOrder_49 : decode cX3_extendOrder 49 = .ok (.aload_n 0, 1) := by decide +kernel
theorem dX3_extendOrder_50 : decode cX3_extendOrder 50 = .ok (.getfield 13, 3) := by decide +kernel
theorem dX3_extendOrder_53 : decode cX3_extendOrder 53 = .ok (.iload_n 2, 1) := by decide +kernel
theorem dX3_extendOrder_54 : decode cX3_extendOrder 54 = .ok (.iconst 1, 1) := by decide +kernel
theorem dX3_extendOrder_55 : decode cX3_extendOrder 55 = .ok (.iadd, 1) := by decide +kernel
theorem dX3_extendOrder_56 : decode cX3_extendOrder 56 = .ok (.aaload, 1) := by decide +kernel
theorem dX3_extendOrder_57 : decode cX3_extendOrder 57 = .ok (.iconst 0, 1) := by decide +kernel
theorem dX3_extendOrder_58 : decode cX3_extendOrder 58 = .ok (.bipush 13, 2) := by decide +kernel
theorem dX3_extendOrder_60 : decode cX3_extendOrder 60 = .ok (.invokestatic 66, 3) := by decide +kernel
theorem dX3_extendOrder_63 : decode cX3_extendOrder 63 = .ok (.aload_n 1, 1) := by decide +kernel
theorem dX3_extendOrder_64 : decode cX3_extendOrder 64 = .ok (.getfield 22, 3) := by decide +kernel
theorem dX3_extendOrder_67 : decode cX3_extendOrder 67 = .ok (.iload 4, 2) := by decide +kernel
theorem dX3_extendOrder_69 : decode cX3_extendOrder 69 = .ok (.aload_n 1, 1) := by decide +kernel
theorem dX3_extendOrder_70 : decode cX3_extendOrder 70 = .ok (.getfield 40, 3) := by decide +kernel
theorem dX3_extendOrder_73 : decode cX3_extendOrder 73 = .ok (.bipush 28, 2) := by decide +kernel
theorem dX3_extendOrder_75 : decode cX3_extendOrder 75 = .ok (.iload 4, 2) := by decide +kernel
theorem dX3_extendOrder_77 : decode cX3_extendOrder 77 = .ok (.iadd, 1) := by decide +kernel
theorem dX3_extendOrder_78 : decode cX3_extendOrder 78 = .ok (.iaload, 1) := by decide +kernel
theorem dX3_extendOrder_79 : decode cX3_extendOrder 79 = .ok (.aload_n 0, 1) := by decide +kernel
theorem dX3_extendOrder_80 : decode cX3_extendOrder 80 = .ok (.getfield 13, 3) := by decide +kernel
theorem dX3_extendOrder_83 : decode cX3_extendOrder 83 = .ok (.iload_n 2, 1) := by decide +kernel
theorem dX3_extendOrder_84 : decode cX3_extendOrder 84 = .ok (.iconst 1, 1) := by decide +kernel
theorem dX3_extendOrder_85 : decode cX3_extendOrder 85 = .ok (.iadd, 1) := by decide +kernel
theorem dX3_extendOrder_86 : decode cX3_extendOrder 86 = .ok (.aaload, 1) := by decide +kernel
theorem dX3_extendOrder_87 : decode cX3_extendOrder 87 = .ok (.invokestatic 50, 3) := by decide +kernel
theorem dX3_extendOrder_90 : decode cX3_extendOrder 90 = .ok (.istore 5, 2) := by decide +kernel
theorem dX3_extendOrder_92 : decode cX3_extendOrder 92 = .ok (.iload 5, 2) := by decide +kernel
theorem dX3_extendOrder_94 : decode cX3_extendOrder 94 = .ok (.ifCond .eq 22, 3) := by decide +kernel
theorem dX3_extendOrder_97 : decode cX3_extendOrder 97 = .ok (.aload_n 0, 1) := by decide +kernel
theorem dX3_extendOrder_98 : decode cX3_extendOrder 98 = .ok (.aload_n 1, 1) := by decide +kernel
theorem dX3_extendOrder_99 : decode cX3_extendOrder 99 = .ok (.iload_n 2, 1) := by decide +kernel
theorem dX3_extendOrder_100 : decode cX3_extendOrder 100 = .ok (.iconst 1, 1) := by decide +kernel
theorem dX3_extendOrder_101 : decode cX3_extendOrder 101 = .ok (.iadd, 1) := by decide +kernel
theorem dX3_extendOrder_102 : decode cX3_extendOrder 102 = .ok (.iload_n 3, 1) := by decide +kernel
theorem dX3_extendOrder_103 : decode cX3_extendOrder 103 = .ok (.iconst 1, 1) := by decide +kernel
theorem dX3_extendOrder_104 : decode cX3_extendOrder 104 = .ok (.iload 4, 2) := by decide +kernel
theorem dX3_extendOrder_106 : decode cX3_extendOrder 106 = .ok (.ishl, 1) := by decide +kernel
theorem dX3_extendOrder_107 : decode cX3_extendOrder 107 = .ok (.ior, 1) := by decide +kernel
theorem dX3_extendOrder_108 : decode cX3_extendOrder 108 = .ok (.invokevirtual 36, 3) := by decide +kernel
theorem dX3_extendOrder_111 : decode cX3_extendOrder 111 = .ok (.ifCond .eq 5, 3) := by decide +kernel
theorem dX3_extendOrder_114 : decode cX3_extendOrder 114 = .ok (.iconst 1, 1) := by decide +kernel
theorem dX3_extendOrder_115 : decode cX3_extendOrder 115 = .ok (.ireturn, 1) := by decide +kernel
theorem dX3_extendOrder_116 : decode cX3_extendOrder 116 = .ok (.aload_n 1, 1) := by decide +kernel
theorem dX3_extendOrder_117 : decode cX3_extendOrder 117 = .ok (.getfield 22, 3) := by decide +kernel
theorem dX3_extendOrder_120 : decode cX3_extendOrder 120 = .ok (.getfield 72, 3) := by decide +kernel
theorem dX3_extendOrder_123 : decode cX3_extendOrder 123 = .ok (.aload_n 1, 1) := by decide +kernel
theorem dX3_extendOrder_124 : decode cX3_extendOrder 124 = .ok (.getfield 22, 3) := by decide +kernel
theorem dX3_extendOrder_127 : decode cX3_extendOrder 127 = .ok (.getfield 75, 3) := by decide +kernel
theorem dX3_extendOrder_130 : decode cX3_extendOrder 130 = .ok (.iload 4, 2) := by decide +kernel
theorem dX3_extendOrder_132 : decode cX3_extendOrder 132 = .ok (.iaload, 1) := by decide +kernel
theorem dX3_extendOrder_133 : decode cX3_extendOrder 133 = .ok (.iaload, 1) := by decide +kernel
theorem dX3_extendOrder_134 : decode cX3_extendOrder 134 = .ok (.ifCond .ne 5, 3) := by decide +kernel
theorem dX3_extendOrder_137 : decode cX3_extendOrder 137 = .ok (.iconst 0, 1) := by decide +kernel
theorem dX3_extendOrder_138 : decode cX3_extendOrder 138 = .ok (.ireturn, 1) := by decide +kernel
theorem dX3_extendOrder_139 : decode cX3_extendOrder 139 = .ok (.iinc 4 1, 3) := by decide +kernel
theorem dX3_extendOrder_142 : decode cX3_extendOrder 142 = .ok (.goto (-120), 3) := by decide +kernel
theorem dX3_extendOrder_145 : decode cX3_extendOrder 145 = .ok (.iconst 0, 1) := by decide +kernel
theorem dX3_extendOrder_146 : decode cX3_extendOrder 146 = .ok (.ireturn, 1) := by decide +kernel
theorem dX3_canFollow_0 : decode cX3_canFollow 0 = .ok (.iload_n 1, 1) := by decide +kernel
theorem dX3_canFollow_1 : decode cX3_canFollow 1 = .ok (.iconst 3, 1) := by decide +kernel
theorem dX3_canFollow_2 : decode cX3_canFollow 2 = .ok (.irem, 1) := by decide +kernel
theorem dX3_canFollow_3 : decode cX3_canFollow 3 = .ok (.aload_n 0, 1) := by decide +kernel
theorem dX3_canFollow_4 : decode cX3_canFollow 4 = .ok (.getfield 22, 3) := by decide +kernel
theorem dX3_canFollow_7 : decode cX3_canFollow 7 = .ok (.getfield 60, 3) := by decide +kernel
theorem dX3_canFollow_10 : decode cX3_canFollow 10 = .ok (.iload_n 1, 1) := by decide +kernel
theorem dX3_canFollow_11 : decode cX3_canFollow 11 = .ok (.iconst 3, 1) := by decide +kernel
theorem dX3_canFollow_12 : decode cX3_canFollow 12 = .ok (.idiv, 1) := by decide +kernel
theorem dX3_canFollow_13 : decode cX3_canFollow 13 = .ok (.iaload, 1) := by decide +kernel
theorem dX3_canFollow_14 : decode cX3_canFollow 14 = .ok (.if_icmp .ge 12, 3) := by decide +kernel
theorem dX3_canFollow_17 : decode cX3_canFollow 17 = .ok (.iload_n 2, 1) := by decide +kernel
theorem dX3_canFollow_18 : decode cX3_canFollow 18 = .ok (.iload_n 1, 1) := by decide +kernel
theorem dX3_canFollow_19 : decode cX3_canFollow 19 = .ok (.ishr, 1) := by decide +kernel
theorem dX3_canFollow_20 : decode cX3_canFollow 20 = .ok (.iconst 1, 1) := by decide +kernel
theorem dX3_canFollow_21 : decode cX3_canFollow 21 = .ok (.iand, 1) := by decide +kernel
theorem dX3_canFollow_22 : decode cX3_canFollow 22 = .ok (.iconst 1, 1) := by decide +kernel
theorem dX3_canFollow_23 : decode cX3_canFollow 23 = .ok (.if_icmp .ne 5, 3) := by decide +kernel
theorem dX3_canFollow_26 : decode cX3_canFollow 26 = .ok (.iconst 0, 1) := by decide +kernel
theorem dX3_canFollow_27 : decode cX3_canFollow 27 = .ok (.ireturn, 1) := by decide +kernel
theorem dX3_canFollow_28 : decode cX3_canFollow 28 = .ok (.aload_n 0, 1) := by decide +kernel
theorem dX3_canFollow_29 : decode cX3_canFollow 29 = .ok (.getfield 40, 3) := by decide +kernel
theorem dX3_canFollow_32 : decode cX3_canFollow 32 = .ok (.bipush 37, 2) := by decide +kernel
theorem dX3_canFollow_34 : decode cX3_canFollow 34 = .ok (.iload_n 1, 1) := by decide +kernel
theorem dX3_canFollow_35 : decode cX3_canFollow 35 = .ok (.iadd, 1) := by decide +kernel
theorem dX3_canFollow_36 : decode cX3_canFollow 36 = .ok (.iaload, 1) := by decide +kernel
theorem dX3_canFollow_37 : decode cX3_canFollow 37 = .ok (.iload_n 2, 1) := by decide +kernel
theorem dX3_canFollow_38 : decode cX3_canFollow 38 = .ok (.iconst (-1), 1) := by decide +kernel
theorem dX3_canFollow_39 : decode cX3_canFollow 39 = .ok (.ixor, 1) := by decide +kernel
theorem dX3_canFollow_40 : decode cX3_canFollow 40 = .ok (.iand, 1) := by decide +kernel
theorem dX3_canFollow_41 : decode cX3_canFollow 41 = .ok (.ifCond .ne 7, 3) := by decide +kernel
theorem dX3_canFollow_44 : decode cX3_canFollow 44 = .ok (.iconst 1, 1) := by decide +kernel
theorem dX3_canFollow_45 : decode cX3_canFollow 45 = .ok (.goto 4, 3) := by decide +kernel
theorem dX3_canFollow_48 : decode cX3_canFollow 48 = .ok (.iconst 0, 1) := by decide +kernel
theorem dX3_canFollow_49 : decode cX3_canFollow 49 = .ok (.ireturn, 1) := by decide +kernel
theorem dX3_serve_0 : decode cX3_serve 0 = .ok (.aload_n 0, 1) := by decide +kernel
theorem dX3_serve_1 : decode cX3_serve 1 = .ok (.getfield 72, 3) := by decide +kernel
theorem dX3_serve_4 : decode cX3_serve 4 = .ok (.aload_n 0, 1) := by decide +kernel
theorem dX3_serve_5 : decode cX3_serve 5 = .ok (.getfield 75, 3) := by decide +kernel
theorem dX3_serve_8 : decode cX3_serve 8 = .ok (.iload_n 1, 1) := by decide +kernel
theorem dX3_serve_9 : decode cX3_serve 9 = .ok (.iaload, 1) := by decide +kernel
theorem dX3_serve_10 : decode cX3_serve 10 = .ok (.iaload, 1) := by decide +kernel
theorem dX3_serve_11 : decode cX3_serve 11 = .ok (.istore 4, 2) := by decide +kernel
theorem dX3_serve_13 : decode cX3_serve 13 = .ok (.aload_n 0, 1) := by decide +kernel
theorem dX3_serve_14 : decode cX3_serve 14 = .ok (.getfield 78, 3) := by decide +kernel
theorem dX3_serve_17 : decode cX3_serve 17 = .ok (.iload_n 1, 1) := by decide +kernel
theorem dX3_serve_18 : decode cX3_serve 18 = .ok (.iaload, 1) := by decide +kernel
theorem dX3_serve_19 : decode cX3_serve 19 = .ok (.istore 5, 2) := by decide +kernel
theorem dX3_serve_21 : decode cX3_serve 21 = .ok (.iload 4, 2) := by decide +kernel
theorem dX3_serve_23 : decode cX3_serve 23 = .ok (.ifCond .ne 5, 3) := by decide +kernel
theorem dX3_serve_26 : decode cX3_serve 26 = .ok (.iconst 1, 1) := by decide +kernel
theorem dX3_serve_27 : decode cX3_serve 27 = .ok (.ireturn, 1) := by decide +kernel
theorem dX3_serve_28 : decode cX3_serve 28 = .ok (.aload_n 0, 1) := by decide +kernel
theorem dX3_serve_29 : decode cX3_serve 29 = .ok (.getfield 26, 3) := by decide +kernel
theorem dX3_serve_32 : decode cX3_serve 32 = .ok (.iconst 1, 1) := by decide +kernel
theorem dX3_serve_33 : decode cX3_serve 33 = .ok (.if_icmp .eq 11, 3) := by decide +kernel
theorem dX3_serve_36 : decode cX3_serve 36 = .ok (.aload_n 0, 1) := by decide +kernel
theorem dX3_serve_37 : decode cX3_serve 37 = .ok (.getfield 26, 3) := by decide +kernel
theorem dX3_serve_40 : decode cX3_serve 40 = .ok (.iconst 2, 1) := by decide +kernel
theorem dX3_serve_41 : decode cX3_serve 41 = .ok (.if_icmp .ne 35, 3) := by decide +kernel
theorem dX3_serve_44 : decode cX3_serve 44 = .ok (.iload 4, 2) := by decide +kernel
theorem dX3_serve_46 : decode cX3_serve 46 = .ok (.iconst 1, 1) := by decide +kernel
theorem dX3_serve_47 : decode cX3_serve 47 = .ok (.if_icmp .eq 21, 3) := by decide +kernel
theorem dX3_serve_50 : decode cX3_serve 50 = .ok (.iload_n 2, 1) := by decide +kernel
theorem dX3_serve_51 : decode cX3_serve 51 = .ok (.aload_n 3, 1) := by decide +kernel
theorem dX3_serve_52 : decode cX3_serve 52 = .ok (.aload_n 0, 1) := by decide +kernel
theorem dX3_serve_53 : decode cX3_serve 53 = .ok (.getfield 26, 3) := by decide +kernel
theorem dX3_serve_56 : decode cX3_serve 56 = .ok (.invokestatic 81, 3) := by decide +kernel
theorem dX3_serve_59 : decode cX3_serve 59 = .ok (.if_icmp .ne 7, 3) := by decide +kernel
theorem dX3_serve_62 : decode cX3_serve 62 = .ok (.iconst 1, 1) := by decide +kernel
theorem dX3_serve_63 : decode cX3_serve 63 = .ok (.goto 4, 3) := by decide +kernel
theorem dX3_serve_66 : decode cX3_serve 66 = .ok (.iconst 0, 1) := by decide +kernel
theorem dX3_serve_67 : decode cX3_serve 67 = .ok (.ireturn, 1) := by decide +kernel
theorem dX3_serve_68 : decode cX3_serve 68 = .ok (.aload_n 3, 1) := by decide +kernel
theorem dX3_serve_69 : decode cX3_serve 69 = .ok (.iload 5, 2) := by decide +kernel
theorem dX3_serve_71 : decode cX3_serve 71 = .ok (.invokestatic 85, 3) := by decide +kernel
theorem dX3_serve_74 : decode cX3_serve 74 = .ok (.iconst 1, 1) := by decide +kernel
theorem dX3_serve_75 : decode cX3_serve 75 = .ok (.ireturn, 1) := by decide +kernel
theorem dX3_serve_76 : decode cX3_serve 76 = .ok (.iload 4, 2) := by decide +kernel
theorem dX3_serve_78 : decode cX3_serve 78 = .ok (.iconst 1, 1) := by decide +kernel
theorem dX3_serve_79 : decode cX3_serve 79 = .ok (.if_icmp .ne 25, 3) := by decide +kernel
theorem dX3_serve_82 : decode cX3_serve 82 = .ok (.aload_n 3, 1) := by decide +kernel
theorem dX3_serve_83 : decode cX3_serve 83 = .ok (.iconst 2, 1) := by decide +kernel
theorem dX3_serve_84 : decode cX3_serve 84 = .ok (.aload_n 0, 1) := by decide +kernel
theorem dX3_serve_85 : decode cX3_serve 85 = .ok (.getfield 26, 3) := by decide +kernel
theorem dX3_serve_88 : decode cX3_serve 88 = .ok (.iconst 3, 1) := by decide +kernel
theorem dX3_serve_89 : decode cX3_serve 89 = .ok (.if_icmp .ne 12, 3) := by decide +kernel
theorem dX3_serve_92 : decode cX3_serve 92 = .ok (.aload_n 3, 1) := by decide +kernel
theorem dX3_serve_93 : decode cX3_serve 93 = .ok (.iconst 2, 1) := by decide +kernel
theorem dX3_serve_94 : decode cX3_serve 94 = .ok (.iaload, 1) := by decide +kernel
theorem dX3_serve_95 : decode cX3_serve 95 = .ok (.iload 5, 2) := by decide +kernel
theorem dX3_serve_97 : decode cX3_serve 97 = .ok (.iadd, 1) := by decide +kernel
theorem dX3_serve_98 : decode cX3_serve 98 = .ok (.goto 5, 3) := by decide +kernel
theorem dX3_serve_101 : decode cX3_serve 101 = .ok (.iload 5, 2) := by decide +kernel
theorem dX3_serve_103 : decode cX3_serve 103 = .ok (.iastore, 1) := by decide +kernel
theorem dX3_serve_104 : decode cX3_serve 104 = .ok (.iload_n 2, 1) := by decide +kernel
theorem dX3_serve_105 : decode cX3_serve 105 = .ok (.aload_n 3, 1) := by decide +kernel
theorem dX3_serve_106 : decode cX3_serve 106 = .ok (.iconst 2, 1) := by decide +kernel
theorem dX3_serve_107 : decode cX3_serve 107 = .ok (.iaload, 1) := by decide +kernel
theorem dX3_serve_108 : decode cX3_serve 108 = .ok (.if_icmp .eq 17, 3) := by decide +kernel
theorem dX3_serve_111 : decode cX3_serve 111 = .ok (.iload 4, 2) := by decide +kernel
theorem dX3_serve_113 : decode cX3_serve 113 = .ok (.iconst 1, 1) := by decide +kernel
theorem dX3_serve_114 : decode cX3_serve 114 = .ok (.if_icmp .ne 15, 3) := by decide +kernel
theorem dX3_serve_117 : decode cX3_serve 117 = .ok (.aload_n 0, 1) := by decide +kernel
theorem dX3_serve_118 : decode cX3_serve 118 = .ok (.getfield 26, 3) := by decide +kernel
theorem dX3_serve_121 : decode cX3_serve 121 = .ok (.iconst 4, 1) := by decide +kernel
theorem dX3_serve_122 : decode cX3_serve 122 = .ok (.if_icmp .ne 7, 3) := by decide +kernel
theorem dX3_serve_125 : decode cX3_serve 125 = .ok (.iconst 1, 1) := by decide +kernel
theorem dX3_serve_126 : decode cX3_serve 126 = .ok (.goto 4, 3) := by decide +kernel
theorem dX3_serve_129 : decode cX3_serve 129 = .ok (.iconst 0, 1) := by decide +kernel
theorem dX3_serve_130 : decode cX3_serve 130 = .ok (.ireturn, 1) := by decide +kernel
theorem dX3_addTo_0 : decode cX3_addTo 0 = .ok (.iconst 3, 1) := by decide +kernel
theorem dX3_addTo_1 : decode cX3_addTo 1 = .ok (.aload_n 0, 1) := by decide +kernel
theorem dX3_addTo_2 : decode cX3_addTo 2 = .ok (.iconst 1, 1) := by decide +kernel
theorem dX3_addTo_3 : decode cX3_addTo 3 = .ok (.iaload, 1) := by decide +kernel
theorem dX3_addTo_4 : decode cX3_addTo 4 = .ok (.iadd, 1) := by decide +kernel
theorem dX3_addTo_5 : decode cX3_addTo 5 = .ok (.bipush 13, 2) := by decide +kernel
theorem dX3_addTo_7 : decode cX3_addTo 7 = .ok (.if_icmp .lt 4, 3) := by decide +kernel
theorem dX3_addTo_10 : decode cX3_addTo 10 = .ok (.return_, 1) := by decide +kernel
theorem dX3_addTo_11 : decode cX3_addTo 11 = .ok (.aload_n 0, 1) := by decide +kernel
theorem dX3_addTo_12 : decode cX3_addTo 12 = .ok (.iconst 3, 1) := by decide +kernel
theorem dX3_addTo_13 : decode cX3_addTo 13 = .ok (.aload_n 0, 1) := by decide +kernel
theorem dX3_addTo_14 : decode cX3_addTo 14 = .ok (.iconst 1, 1) := by decide +kernel
theorem dX3_addTo_15 : decode cX3_addTo 15 = .ok (.iaload, 1) := by decide +kernel
theorem dX3_addTo_16 : decode cX3_addTo 16 = .ok (.iadd, 1) := by decide +kernel
theorem dX3_addTo_17 : decode cX3_addTo 17 = .ok (.iload_n 1, 1) := by decide +kernel
theorem dX3_addTo_18 : decode cX3_addTo 18 = .ok (.iastore, 1) := by decide +kernel
theorem dX3_addTo_19 : decode cX3_addTo 19 = .ok (.aload_n 0, 1) := by decide +kernel
theorem dX3_addTo_20 : decode cX3_addTo 20 = .ok (.iconst 1, 1) := by decide +kernel
theorem dX3_addTo_21 : decode cX3_addTo 21 = .ok (.dup2, 1) := by decide +kernel
theorem dX3_addTo_22 : decode cX3_addTo 22 = .ok (.iaload, 1) := by decide +kernel
theorem dX3_addTo_23 : decode cX3_addTo 23 = .ok (.iconst 1, 1) := by decide +kernel
theorem dX3_addTo_24 : decode cX3_addTo 24 = .ok (.iadd, 1) := by decide +kernel
theorem dX3_addTo_25 : decode cX3_addTo 25 = .ok (.iastore, 1) := by decide +kernel
theorem dX3_addTo_26 : decode cX3_addTo 26 = .ok (.return_, 1) := by decide +kernel
theorem dX3_removeFrom_0 : decode cX3_removeFrom 0 = .ok (.aload_n 0, 1) := by decide +kernel
theorem dX3_removeFrom_1 : decode cX3_removeFrom 1 = .ok (.iconst 0, 1) := by decide +kernel
theorem dX3_removeFrom_2 : decode cX3_removeFrom 2 = .ok (.iaload, 1) := by decide +kernel
theorem dX3_removeFrom_3 : decode cX3_removeFrom 3 = .ok (.aload_n 0, 1) := by decide +kernel
theorem dX3_removeFrom_4 : decode cX3_removeFrom 4 = .ok (.iconst 1, 1) := by decide +kernel
theorem dX3_removeFrom_5 : decode cX3_removeFrom 5 = .ok (.iaload, 1) := by decide +kernel
theorem dX3_removeFrom_6 : decode cX3_removeFrom 6 = .ok (.if_icmp .lt 6, 3) := by decide +kernel
theorem dX3_removeFrom_9 : decode cX3_removeFrom 9 = .ok (.bipush (-100), 2) := by decide +kernel
theorem dX3_removeFrom_11 : decode cX3_removeFrom 11 = .ok (.ireturn, 1) := by decide +kernel
theorem dX3_removeFrom_12 : decode cX3_removeFrom 12 = .ok (.iload_n 1, 1) := by decide +kernel
theorem dX3_removeFrom_13 : decode cX3_removeFrom 13 = .ok (.iconst 1, 1) := by decide +kernel
theorem dX3_removeFrom_14 : decode cX3_removeFrom 14 = .ok (.if_icmp .ne 18, 3) := by decide +kernel
theorem dX3_removeFrom_17 : decode cX3_removeFrom 17 = .ok (.aload_n 0, 1) := by decide +kernel
theorem dX3_removeFrom_18 : decode cX3_removeFrom 18 = .ok (.iconst 1, 1) := by decide +kernel
theorem dX3_removeFrom_19 : decode cX3_removeFrom 19 = .ok (.dup2, 1) := by decide +kernel
theorem dX3_removeFrom_20 : decode cX3_removeFrom 20 = .ok (.iaload, 1) := by decide +kernel
theorem dX3_removeFrom_21 : decode cX3_removeFrom 21 = .ok (.iconst 1, 1) := by decide +kernel
theorem dX3_removeFrom_22 : decode cX3_removeFrom 22 = .ok (.isub, 1) := by decide +kernel
theorem dX3_removeFrom_23 : decode cX3_removeFrom 23 = .ok (.iastore, 1) := by decide +kernel
theorem dX3_removeFrom_24 : decode cX3_removeFrom 24 = .ok (.aload_n 0, 1) := by decide +kernel
theorem dX3_removeFrom_25 : decode cX3_removeFrom 25 = .ok (.iconst 3, 1) := by decide +kernel
theorem dX3_removeFrom_26 : decode cX3_removeFrom 26 = .ok (.aload_n 0, 1) := by decide +kernel
theorem dX3_removeFrom_27 : decode cX3_removeFrom 27 = .ok (.iconst 1, 1) := by decide +kernel
theorem dX3_removeFrom_28 : decode cX3_removeFrom 28 = .ok (.iaload, 1) := by decide +kernel
theorem dX3_removeFrom_29 : decode cX3_removeFrom 29 = .ok (.iadd, 1) := by decide +kernel
theorem dX3_removeFrom_30 : decode cX3_removeFrom 30 = .ok (.iaload, 1) := by decide +kernel
theorem dX3_removeFrom_31 : decode cX3_removeFrom 31 = .ok (.ireturn, 1) := by decide +kernel
theorem dX3_removeFrom_32 : decode cX3_removeFrom 32 = .ok (.aload_n 0, 1) := by decide +kernel
theorem dX3_removeFrom_33 : decode cX3_removeFrom 33 = .ok (.iconst 0, 1) := by decide +kernel
theorem dX3_removeFrom_34 : decode cX3_removeFrom 34 = .ok (.dup2, 1) := by decide +kernel
theorem dX3_removeFrom_35 : decode cX3_removeFrom 35 = .ok (.iaload, 1) := by decide +kernel
theorem dX3_removeFrom_36 : decode cX3_removeFrom 36 = .ok (.iconst 1, 1) := by decide +kernel
theorem dX3_removeFrom_37 : decode cX3_removeFrom 37 = .ok (.iadd, 1) := by decide +kernel
theorem dX3_removeFrom_38 : decode cX3_removeFrom 38 = .ok (.iastore, 1) := by decide +kernel
theorem dX3_removeFrom_39 : decode cX3_removeFrom 39 = .ok (.aload_n 0, 1) := by decide +kernel
theorem dX3_removeFrom_40 : decode cX3_removeFrom 40 = .ok (.iconst 3, 1) := by decide +kernel
theorem dX3_removeFrom_41 : decode cX3_removeFrom 41 = .ok (.aload_n 0, 1) := by decide +kernel
theorem dX3_removeFrom_42 : decode cX3_removeFrom 42 = .ok (.iconst 0, 1) := by decide +kernel
theorem dX3_removeFrom_43 : decode cX3_removeFrom 43 = .ok (.iaload, 1) := by decide +kernel
theorem dX3_removeFrom_44 : decode cX3_removeFrom 44 = .ok (.iadd, 1) := by decide +kernel
theorem dX3_removeFrom_45 : decode cX3_removeFrom 45 = .ok (.iconst 1, 1) := by decide +kernel
theorem dX3_removeFrom_46 : decode cX3_removeFrom 46 = .ok (.isub, 1) := by decide +kernel
theorem dX3_removeFrom_47 : decode cX3_removeFrom 47 = .ok (.iaload, 1) := by decide +kernel
theorem dX3_removeFrom_48 : decode cX3_removeFrom 48 = .ok (.ireturn, 1) := by decide +kernel
theorem dX6_init_0 : decode cX6_init 0 = .ok (.aload_n 0, 1) := by decide +kernel
theorem dX6_init_1 : decode cX6_init 1 = .ok (.invokespecial 3, 3) := by decide +kernel
theorem dX6_init_4 : decode cX6_init 4 = .ok (.aload_n 0, 1) := by decide +kernel
theorem dX6_init_5 : decode cX6_init 5 = .ok (.sipush 900, 3) := by decide +kernel
theorem dX6_init_8 : decode cX6_init 8 = .ok (.newarray .int, 2) := by decide +kernel
theorem dX6_init_10 : decode cX6_init 10 = .ok (.putfield 11, 3) := by decide +kernel
theorem dX6_init_13 : decode cX6_init 13 = .ok (.aload_n 0, 1) := by decide +kernel
theorem dX6_init_14 : decode cX6_init 14 = .ok (.bipush 6, 2) := by decide +kernel
theorem dX6_init_16 : decode cX6_init 16 = .ok (.newarray .int, 2) := by decide +kernel
theorem dX6_init_18 : decode cX6_init 18 = .ok (.putfield 15, 3) := by decide +kernel
theorem dX6_init_21 : decode cX6_init 21 = .ok (.aload_n 0, 1) := by decide +kernel
theorem dX6_init_22 : decode cX6_init 22 = .ok (.bipush 6, 2) := by decide +kernel
theorem dX6_init_24 : decode cX6_init 24 = .ok (.newarray .int, 2) := by decide +kernel
theorem dX6_init_26 : decode cX6_init 26 = .ok (.putfield 18, 3) := by decide +kernel
theorem dX6_init_29 : decode cX6_init 29 = .ok (.aload_n 0, 1) := by decide +kernel
theorem dX6_init_30 : decode cX6_init 30 = .ok (.iconst 4, 1) := by decide +kernel
theorem dX6_init_31 : decode cX6_init 31 = .ok (.newarray .int, 2) := by decide +kernel
theorem dX6_init_33 : decode cX6_init 33 = .ok (.putfield 21, 3) := by decide +kernel
theorem dX6_init_36 : decode cX6_init 36 = .ok (.aload_n 0, 1) := by decide +kernel
theorem dX6_init_37 : decode cX6_init 37 = .ok (.bipush 13, 2) := by decide +kernel
theorem dX6_init_39 : decode cX6_init 39 = .ok (.newarray .int, 2) := by decide +kernel
theorem dX6_init_41 : decode cX6_init 41 = .ok (.putfield 24, 3) := by decide +kernel
theorem dX6_init_44 : decode cX6_init 44 = .ok (.aload_n 0, 1) := by decide +kernel
theorem dX6_init_45 : decode cX6_init 45 = .ok (.bipush 13, 2) := by decide +kernel
theorem dX6_init_47 : decode cX6_init 47 = .ok (.newarray .int, 2) := by decide +kernel
theorem dX6_init_49 : decode cX6_init 49 = .ok (.putfield 27, 3) := by decide +kernel
theorem dX6_init_52 : decode cX6_init 52 = .ok (.aload_n 0, 1) := by decide +kernel
theorem dX6_init_53 : decode cX6_init 53 = .ok (.iconst 0, 1) := by decide +kernel
theorem dX6_init_54 : decode cX6_init 54 = .ok (.putfield 30, 3) := by decide +kernel
theorem dX6_init_57 : decode cX6_init 57 = .ok (.aload_n 0, 1) := by decide +kernel
theorem dX6_init_58 : decode cX6_init 58 = .ok (.iconst 0, 1) := by decide +kernel
theorem dX6_init_59 : decode cX6_init 59 = .ok (.putfield 34, 3) := by decide +kernel
theorem dX6_init_62 : decode cX6_init 62 = .ok (.aload_n 0, 1) := by decide +kernel
theorem dX6_init_63 : decode cX6_init 63 = .ok (.iconst 0, 1) := by decide +kernel
theorem dX6_init_64 : decode cX6_init 64 = .ok (.putfield 38, 3) := by decide +kernel
theorem dX6_init_67 : decode cX6_init 67 = .ok (.aload_n 0, 1) := by decide +kernel
theorem dX6_init_68 : decode cX6_init 68 = .ok (.getfield 15, 3) := by decide +kernel
theorem dX6_init_71 : decode cX6_init 71 = .ok (.iconst (-1), 1) := by decide +kernel
theorem dX6_init_72 : decode cX6_init 72 = .ok (.invokestatic 41, 3) := by decide +kernel
theorem dX6_init_75 : decode cX6_init 75 = .ok (.return_, 1) := by decide +kernel
theorem dX6_copyFrom_0 : decode cX6_copyFrom 0 = .ok (.aload_n 1, 1) := by decide +kernel
theorem dX6_copyFrom_1 : decode cX6_copyFrom 1 = .ok (.getfield 11, 3) := by decide +kernel
theorem dX6_copyFrom_4 : decode cX6_copyFrom 4 = .ok (.iconst 0, 1) := by decide +kernel
theorem dX6_copyFrom_5 : decode cX6_copyFrom 5 = .ok (.aload_n 0, 1) := by decide +kernel
theorem dX6_copyFrom_6 : decode cX6_copyFrom 6 = .ok (.getfield 11, 3) := by decide +kernel
theorem dX6_copyFrom_9 : decode cX6_copyFrom 9 = .ok (.iconst 0, 1) := by decide +kernel
theorem dX6_copyFrom_10 : decode cX6_copyFrom 10 = .ok (.aload_n 0, 1) := by decide +kernel
theorem dX6_copyFrom_11 : decode cX6_copyFrom 11 = .ok (.getfield 11, 3) := by decide +kernel
theorem dX6_copyFrom_14 : decode cX6_copyFrom 14 = .ok (.arraylength, 1) := by decide +kernel
theorem dX6_copyFrom_15 : decode cX6_copyFrom 15 = .ok (.invokestatic 47, 3) := by decide +kernel
theorem dX6_copyFrom_18 : decode cX6_copyFrom 18 = .ok (.aload_n 1, 1) := by decide +kernel
theorem dX6_copyFrom_19 : decode cX6_copyFrom 19 = .ok (.getfield 15, 3) := by decide +kernel
theorem dX6_copyFrom_22 : decode cX6_copyFrom 22 = .ok (.iconst 0, 1) := by decide +kernel
theorem dX6_copyFrom_23 : decode cX6_copyFrom 23 = .ok (.aload_n 0, 1) := by decide +kernel
theorem dX6_copyFrom_24 : decode cX6_copyFrom 24 = .ok (.getfield 15, 3) := by decide +kernel
theorem dX6_copyFrom_27 : decode cX6_copyFrom 27 = .ok (.iconst 0, 1) := by decide +kernel
theorem dX6_copyFrom_28 : decode cX6_copyFrom 28 = .ok (.aload_n 0, 1) := by decide +kernel
theorem dX6_copyFrom_29 : decode cX6_copyFrom 29 = .ok (.getfield 15, 3) := by decide +kernel
theorem dX6_copyFrom_32 : decode cX6_copyFrom 32 = .ok (.arraylength, 1) := by decide +kernel
theorem dX6_copyFrom_33 : decode cX6_copyFrom 33 = .ok (.invokestatic 47, 3) := by decide +kernel
theorem dX6_copyFrom_36 : decode cX6_copyFrom 36 = .ok (.aload_n 1, 1) := by decide +kernel
theorem dX6_copyFrom_37 : decode cX6_copyFrom 37 = .ok (.getfield 18, 3) := by decide +kernel
theorem dX6_copyFrom_40 : decode cX6_copyFrom 40 = .ok (.iconst 0, 1) := by decide +kernel
theorem dX6_copyFrom_41 : decode cX6_copyFrom 41 = .ok (.aload_n 0, 1) := by decide +kernel
theorem dX6_copyFrom_42 : decode cX6_copyFrom 42 = .ok (.getfield 18, 3) := by decide +kernel
theorem dX6_copyFrom_45 : decode cX6_copyFrom 45 = .ok (.iconst 0, 1) := by decide +kernel
theorem dX6_copyFrom_46 : decode cX6_copyFrom 46 = .ok (.aload_n 0, 1) := by decide +kernel
theorem dX6_copyFrom_47 : decode cX6_copyFrom 47 = .ok (.getfield 18, 3) := by decide +kernel
theorem dX6_copyFrom_50 : decode cX6_copyFrom 50 = .ok (.arraylength, 1) := by decide +kernel
theorem dX6_copyFrom_51 : decode cX6_copyFrom 51 = .ok (.invokestatic 47, 3) := by decide +kernel
theorem dX6_copyFrom_54 : decode cX6_copyFrom 54 = .ok (.aload_n 1, 1) := by decide +kernel
theorem dX6_copyFrom_55 : decode cX6_copyFrom 55 = .ok (.getfield 21, 3) := by decide +kernel
theorem dX6_copyFrom_58 : decode cX6_copyFrom 58 = .ok (.iconst 0, 1) := by decide +kernel
theorem dX6_copyFrom_59 : decode cX6_copyFrom 59 = .ok (.aload_n 0, 1) := by decide +kernel
theorem dX6_copyFrom_60 : decode cX6_copyFrom 60 = .ok (.getfield 21, 3) := by decide +kernel
theorem dX6_copyFrom_63 : decode cX6_copyFrom 63 = .ok (.iconst 0, 1) := by decide +kernel
theorem dX6_copyFrom_64 : decode cX6_copyFrom 64 = .ok (.aload_n 0, 1) := by decide +kernel
theorem dX6_copyFrom_65 : decode cX6_copyFrom 65 = .ok (.getfield 21, 3) := by decide +kernel
theorem dX6_copyFrom_68 : decode cX6_copyFrom 68 = .ok (.arraylength, 1) := by decide +kernel
theorem dX6_copyFrom_69 : decode cX6_copyFrom 69 = .ok (.invokestatic 47, 3) := by decide +kernel
theorem dX6_copyFrom_72 : decode cX6_copyFrom 72 = .ok (.aload_n 1, 1) := by decide +kernel
theorem dX6_copyFrom_73 : decode cX6_copyFrom 73 = .ok (.getfield 24, 3) := by decide +kernel
theorem dX6_copyFrom_76 : decode cX6_copyFrom 76 = .ok (.iconst 0, 1) := by decide +kernel
theorem dX6_copyFrom_77 : decode cX6_copyFrom 77 = .ok (.aload_n 0, 1) := by decide +kernel
theorem dX6_copyFrom_78 : decode cX6_copyFrom 78 = .ok (.getfield 24, 3) := by decide +kernel
theorem dX6_copyFrom_81 : decode cX6_copyFrom 81 = .ok (.iconst 0, 1) := by decide +kernel
theorem dX6_copyFrom_82 : decode cX6_copyFrom 82 = .ok (.aload_n 0, 1) := by decide +kernel
theorem dX6_copyFrom_83 : decode cX6_copyFrom 83 = .ok (.getfield 24, 3) := by decide +kernel
theorem dX6_copyFrom_86 : decode cX6_copyFrom 86 = .ok (.arraylength, 1) := by decide +kernel
theorem dX6_copyFrom_87 : decode cX6_copyFrom 87 = .ok (.invokestatic 47, 3) := by decide +kernel
theorem dX6_copyFrom_90 : decode cX6_copyFrom 90 = .ok (.aload_n 1, 1) := by decide +kernel
theorem dX6_copyFrom_91 : decode cX6_copyFrom 91 = .ok (.getfield 27, 3) := by decide +kernel
theorem dX6_copyFrom_94 : decode cX6_copyFrom 94 = .ok (.iconst 0, 1) := by decide +kernel
theorem dX6_copyFrom_95 : decode cX6_copyFrom 95 = .ok (.aload_n 0, 1) := by decide +kernel
theorem dX6_copyFrom_96 : decode cX6_copyFrom 96 = .ok (.getfield 27, 3) := by decide +kernel
theorem dX6_copyFrom_99 : decode cX6_copyFrom 99 = .ok (.iconst 0, 1) := by decide +kernel
theorem dX6_copyFrom_100 : decode cX6_copyFrom 100 = .ok (.aload_n 0, 1) := by decide +kernel
theorem dX6_copyFrom_101 : decode cX6_copyFrom 101 = .ok (.getfield 27, 3) := by decide +kernel
theorem dX6_copyFrom_104 : decode cX6_copyFrom 104 = .ok (.arraylength, 1) := by decide +kernel
theorem dX6_copyFrom_105 : decode cX6_copyFrom 105 = .ok (.invokestatic 47, 3) := by decide +kernel
theorem dX6_copyFrom_108 : decode cX6_copyFrom 108 = .ok (.aload_n 0, 1) := by decide +kernel
theorem dX6_copyFrom_109 : decode cX6_copyFrom 109 = .ok (.aload_n 1, 1) := by decide +kernel
theorem dX6_copyFrom_110 : decode cX6_copyFrom 110 = .ok (.getfield 30, 3) := by decide +kernel
theorem dX6_copyFrom_113 : decode cX6_copyFrom 113 = .ok (.putfield 30, 3) := by decide +kernel
theorem dX6_copyFrom_116 : decode cX6_copyFrom 116 = .ok (.aload_n 0, 1) := by decide +kernel
theorem dX6_copyFrom_117 : decode cX6_copyFrom 117 = .ok (.aload_n 1, 1) := by decide +kernel
theorem dX6_copyFrom_118 : decode cX6_copyFrom 118 = .ok (.getfield 34, 3) := by decide +kernel
theorem dX6_copyFrom_121 : decode cX6_copyFrom 121 = .ok (.putfield 34, 3) := by decide +kernel
theorem dX6_copyFrom_124 : decode cX6_copyFrom 124 = .ok (.aload_n 0, 1) := by decide +kernel
theorem dX6_copyFrom_125 : decode cX6_copyFrom 125 = .ok (.aload_n 1, 1) := by decide +kernel
theorem dX6_copyFrom_126 : decode cX6_copyFrom 126 = .ok (.getfield 38, 3) := by decide +kernel
theorem dX6_copyFrom_129 : decode cX6_copyFrom 129 = .ok (.putfield 38, 3) := by decide +kernel
theorem dX6_copyFrom_132 : decode cX6_copyFrom 132 = .ok (.return_, 1) := by decide +kernel
theorem dX6_size_0 : decode cX6_size 0 = .ok (.iconst 0, 1) := by decide +kernel
theorem dX6_size_1 : decode cX6_size 1 = .ok (.aload_n 0, 1) := by decide +kernel
theorem dX6_size_2 : decode cX6_size 2 = .ok (.getfield 15, 3) := by decide +kernel
theorem dX6_size_5 : decode cX6_size 5 = .ok (.iload_n 1, 1) := by decide +kernel
theorem dX6_size_6 : decode cX6_size 6 = .ok (.iaload, 1) := by decide +kernel
theorem dX6_size_7 : decode cX6_size 7 = .ok (.invokestatic 53, 3) := by decide +kernel
theorem dX6_size_10 : decode cX6_size 10 = .ok (.ireturn, 1) := by decide +kernel
theorem dX6_append_0 : decode cX6_append 0 = .ok (.aload_n 0, 1) := by decide +kernel
theorem dX6_append_1 : decode cX6_append 1 = .ok (.iload_n 1, 1) := by decide +kernel
theorem dX6_append_2 : decode cX6_append 2 = .ok (.invokevirtual 59, 3) := by decide +kernel
theorem dX6_append_5 : decode cX6_append 5 = .ok (.istore 6, 2) := by decide +kernel
theorem dX6_append_7 : decode cX6_append 7 = .ok (.iload_n 1, 1) := by decide +kernel
theorem dX6_append_8 : decode cX6_append 8 = .ok (.bipush 30, 2) := by decide +kernel
theorem dX6_append_10 : decode cX6_append 10 = .ok (.imul, 1) := by decide +kernel
theorem dX6_append_11 : decode cX6_append 11 = .ok (.iload 6, 2) := by decide +kernel
theorem dX6_append_13 : decode cX6_append 13 = .ok (.iadd, 1) := by decide +kernel
theorem dX6_append_14 : decode cX6_append 14 = .ok (.iconst 5, 1) := by decide +kernel
theorem dX6_append_15 : decode cX6_append 15 = .ok (.imul, 1) := by decide +kernel
theorem dX6_append_16 : decode cX6_append 16 = .ok (.istore 7, 2) := by decide +kernel
theorem dX6_append_18 : decode cX6_append 18 = .ok (.aload_n 0, 1) := by decide +kernel
theorem dX6_append_19 : decode cX6_append 19 = .ok (.getfield 11, 3) := by decide +kernel
theorem dX6_append_22 : decode cX6_append 22 = .ok (.iload 7, 2) := by decide +kernel
theorem dX6_append_24 : decode cX6_append 24 = .ok (.iload_n 2, 1) := by decide +kernel
theorem dX6_append_25 : decode cX6_append 25 = .ok (.iastore, 1) := by decide +kernel
theorem dX6_append_26 : decode cX6_append 26 = .ok (.aload_n 0, 1) := by decide +kernel
theorem dX6_append_27 : decode cX6_append 27 = .ok (.getfield 11, 3) := by decide +kernel
theorem dX6_append_30 : decode cX6_append 30 = .ok (.iload 7, 2) := by decide +kernel
theorem dX6_append_32 : decode cX6_append 32 = .ok (.iconst 1, 1) := by decide +kernel
theorem dX6_append_33 : decode cX6_append 33 = .ok (.iadd, 1) := by decide +kernel
theorem dX6_append_34 : decode cX6_append 34 = .ok (.iload_n 3, 1) := by decide +kernel
theorem dX6_append_35 : decode cX6_append 35 = .ok (.iastore, 1) := by decide +kernel
theorem dX6_append_36 : decode cX6_append 36 = .ok (.aload_n 0, 1) := by decide +kernel
theorem dX6_append_37 : decode cX6_append 37 = .ok (.getfield 11, 3) := by decide +kernel
theorem dX6_append_40 : decode cX6_append 40 = .ok (.iload 7, 2) := by decide +kernel
theorem dX6_append_42 : decode cX6_append 42 = .ok (.iconst 2, 1) := by decide +kernel
theorem dX6_append_43 : decode cX6_append 43 = .ok (.iadd, 1) := by decide +kernel
theorem dX6_append_44 : decode cX6_append 44 = .ok (.iload 4, 2) := by decide +kernel
theorem dX6_append_46 : decode cX6_append 46 = .ok (.iastore, 1) := by decide +kernel
theorem dX6_append_47 : decode cX6_append 47 = .ok (.aload_n 0, 1) := by decide +kernel
theorem dX6_append_48 : decode cX6_append 48 = .ok (.getfield 11, 3) := by decide +kernel
theorem dX6_append_51 : decode cX6_append 51 = .ok (.iload 7, 2) := by decide +kernel
theorem dX6_append_53 : decode cX6_append 53 = .ok (.iconst 3, 1) := by decide +kernel
theorem dX6_append_54 : decode cX6_append 54 = .ok (.iadd, 1) := by decide +kernel
theorem dX6_append_55 : decode cX6_append 55 = .ok (.iload 5, 2) := by decide +kernel
theorem dX6_append_57 : decode cX6_append 57 = .ok (.iastore, 1) := by decide +kernel
theorem dX6_append_58 : decode cX6_append 58 = .ok (.aload_n 0, 1) := by decide +kernel
theorem dX6_append_59 : decode cX6_append 59 = .ok (.getfield 11, 3) := by decide +kernel
theorem dX6_append_62 : decode cX6_append 62 = .ok (.iload 7, 2) := by decide +kernel
theorem dX6_append_64 : decode cX6_append 64 = .ok (.iconst 4, 1) := by decide +kernel
theorem dX6_append_65 : decode cX6_append 65 = .ok (.iadd, 1) := by decide +kernel
theorem dX6_append_66 : decode cX6_append 66 = .ok (.iconst 0, 1) := by decide +kernel
theorem dX6_append_67 : decode cX6_append 67 = .ok (.iastore, 1) := by decide +kernel
theorem dX6_append_68 : decode cX6_append 68 = .ok (.aload_n 0, 1) := by decide +kernel
theorem dX6_append_69 : decode cX6_append 69 = .ok (.getfield 15, 3) := by decide +kernel
theorem dX6_append_72 : decode cX6_append 72 = .ok (.iload_n 1, 1) := by decide +kernel
theorem dX6_append_73 : decode cX6_append 73 = .ok (.iload 6, 2) := by decide +kernel
theorem dX6_append_75 : decode cX6_append 75 = .ok (.iconst 1, 1) := by decide +kernel
theorem dX6_append_76 : decode cX6_append 76 = .ok (.iadd, 1) := by decide +kernel
theorem dX6_append_77 : decode cX6_append 77 = .ok (.iastore, 1) := by decide +kernel
theorem dX6_append_78 : decode cX6_append 78 = .ok (.iload 6, 2) := by decide +kernel
theorem dX6_append_80 : decode cX6_append 80 = .ok (.iconst 1, 1) := by decide +kernel
theorem dX6_append_81 : decode cX6_append 81 = .ok (.iadd, 1) := by decide +kernel
theorem dX6_append_82 : decode cX6_append 82 = .ok (.ireturn, 1) := by decide +kernel
theorem dX6_find_0 : decode cX6_find 0 = .ok (.iload_n 2, 1) := by decide +kernel
theorem dX6_find_1 : decode cX6_find 1 = .ok (.ifCond .lt 13, 3) := by decide +kernel
theorem dX6_find_4 : decode cX6_find 4 = .ok (.iload_n 2, 1) := by decide +kernel
theorem dX6_find_5 : decode cX6_find 5 = .ok (.aload_n 0, 1) := by decide +kernel
theorem dX6_find_6 : decode cX6_find 6 = .ok (.getfield 15, 3) := by decide +kernel
theorem dX6_find_9 : decode cX6_find 9 = .ok (.iload_n 1, 1) := by decide +kernel
theorem dX6_find_10 : decode cX6_find 10 = .ok (.iaload, 1) := by decide +kernel
theorem dX6_find_11 : decode cX6_find 11 = .ok (.if_icmp .lt 5, 3) := by decide +kernel
theorem dX6_find_14 : decode cX6_find 14 = .ok (.iconst (-1), 1) := by decide +kernel
theorem dX6_find_15 : decode cX6_find 15 = .ok (.ireturn, 1) := by decide +kernel
theorem dX6_find_16 : decode cX6_find 16 = .ok (.iload_n 1, 1) := by decide +kernel
theorem dX6_find_17 : decode cX6_find 17 = .ok (.bipush 30, 2) := by decide +kernel
theorem dX6_find_19 : decode cX6_find 19 = .ok (.imul, 1) := by decide +kernel
theorem dX6_find_20 : decode cX6_find 20 = .ok (.iload_n 2, 1) := by decide +kernel
theorem dX6_find_21 : decode cX6_find 21 = .ok (.iadd, 1) := by decide +kernel
theorem dX6_find_22 : decode cX6_find 22 = .ok (.iconst 5, 1) := by decide +kernel
theorem dX6_find_23 : decode cX6_find 23 = .ok (.imul, 1) := by decide +kernel
theorem dX6_find_24 : decode cX6_find 24 = .ok (.ireturn, 1) := by decide +kernel
theorem dX6_total_0 : decode cX6_total 0 = .ok (.aload_n 0, 1) := by decide +kernel
theorem dX6_total_1 : decode cX6_total 1 = .ok (.getfield 21, 3) := by decide +kernel
theorem dX6_total_4 : decode cX6_total 4 = .ok (.iconst 0, 1) := by decide +kernel
theorem dX6_total_5 : decode cX6_total 5 = .ok (.iaload, 1) := by decide +kernel
theorem dX6_total_6 : decode cX6_total 6 = .ok (.aload_n 0, 1) := by decide +kernel
theorem dX6_total_7 : decode cX6_total 7 = .ok (.getfield 21, 3) := by decide +kernel
theorem dX6_total_10 : decode cX6_total 10 = .ok (.iconst 1, 1) := by decide +kernel
theorem dX6_total_11 : decode cX6_total 11 = .ok (.iaload, 1) := by decide +kernel
theorem dX6_total_12 : decode cX6_total 12 = .ok (.iadd, 1) := by decide +kernel
theorem dX6_total_13 : decode cX6_total 13 = .ok (.aload_n 0, 1) := by decide +kernel
theorem dX6_total_14 : decode cX6_total 14 = .ok (.getfield 21, 3) := by decide +kernel
theorem dX6_total_17 : decode cX6_total 17 = .ok (.iconst 2, 1) := by decide +kernel
theorem dX6_total_18 : decode cX6_total 18 = .ok (.iaload, 1) := by decide +kernel
theorem dX6_total_19 : decode cX6_total 19 = .ok (.iadd, 1) := by decide +kernel
theorem dX6_total_20 : decode cX6_total 20 = .ok (.ireturn, 1) := by decide +kernel
theorem dX6_isFullFor_0 : decode cX6_isFullFor 0 = .ok (.iload_n 1, 1) := by decide +kernel
theorem dX6_isFullFor_1 : decode cX6_isFullFor 1 = .ok (.iconst 3, 1) := by decide +kernel
theorem dX6_isFullFor_2 : decode cX6_isFullFor 2 = .ok (.if_icmp .ne 19, 3) := by decide +kernel
theorem dX6_isFullFor_5 : decode cX6_isFullFor 5 = .ok (.aload_n 0, 1) := by decide +kernel
theorem dX6_isFullFor_6 : decode cX6_isFullFor 6 = .ok (.getfield 21, 3) := by decide +kernel
theorem dX6_isFullFor_9 : decode cX6_isFullFor 9 = .ok (.iload_n 1, 1) := by decide +kernel
theorem dX6_isFullFor_10 : decode cX6_isFullFor 10 = .ok (.iaload, 1) := by decide +kernel
theorem dX6_isFullFor_11 : decode cX6_isFullFor 11 = .ok (.iconst 4, 1) := by decide +kernel
theorem dX6_isFullFor_12 : decode cX6_isFullFor 12 = .ok (.if_icmp .lt 7, 3) := by decide +kernel
theorem dX6_isFullFor_15 : decode cX6_isFullFor 15 = .ok (.iconst 1, 1) := by decide +kernel
theorem dX6_isFullFor_16 : decode cX6_isFullFor 16 = .ok (.goto 4, 3) := by decide +kernel
theorem dX6_isFullFor_19 : decode cX6_isFullFor 19 = .ok (.iconst 0, 1) := by decide +kernel
theorem dX6_isFullFor_20 : decode cX6_isFullFor 20 = .ok (.ireturn, 1) := by decide +kernel
theorem dX6_isFullFor_21 : decode cX6_isFullFor 21 = .ok (.aload_n 0, 1) := by decide +kernel
theorem dX6_isFullFor_22 : decode cX6_isFullFor 22 = .ok (.getfield 21, 3) := by decide +kernel
theorem dX6_isFullFor_25 : decode cX6_isFullFor 25 = .ok (.iload_n 1, 1) := by decide +kernel
theorem dX6_isFullFor_26 : decode cX6_isFullFor 26 = .ok (.iaload, 1) := by decide +kernel
theorem dX6_isFullFor_27 : decode cX6_isFullFor 27 = .ok (.iconst 3, 1) := by decide +kernel
theorem dX6_isFullFor_28 : decode cX6_isFullFor 28 = .ok (.if_icmp .ge 12, 3) := by decide +kernel
theorem dX6_isFullFor_31 : decode cX6_isFullFor 31 = .ok (.aload_n 0, 1) := by decide +kernel
theorem dX6_isFullFor_32 : decode cX6_isFullFor 32 = .ok (.invokevirtual 63, 3) := by decide +kernel
theorem dX6_isFullFor_35 : decode cX6_isFullFor 35 = .ok (.bipush 6, 2) := by decide +kernel
theorem dX6_isFullFor_37 : decode cX6_isFullFor 37 = .ok (.if_icmp .lt 7, 3) := by decide +kernel
theorem dX6_isFullFor_40 : decode cX6_isFullFor 40 = .ok (.iconst 1, 1) := by decide +kernel
theorem dX6_isFullFor_41 : decode cX6_isFullFor 41 = .ok (.goto 4, 3) := by decide +kernel
theorem dX6_isFullFor_44 : decode cX6_isFullFor 44 = .ok (.iconst 0, 1) := by decide +kernel
theorem dX6_isFullFor_45 : decode cX6_isFullFor 45 = .ok (.ireturn, 1) := by decide +kernel
theorem dX6_addCall_0 : decode cX6_addCall 0 = .ok (.iload_n 1, 1) := by decide +kernel
theorem dX6_addCall_1 : decode cX6_addCall 1 = .ok (.iconst 3, 1) := by decide +kernel
theorem dX6_addCall_2 : decode cX6_addCall 2 = .ok (.imul, 1) := by decide +kernel
theorem dX6_addCall_3 : decode cX6_addCall 3 = .ok (.aload_n 0, 1) := by decide +kernel
theorem dX6_addCall_4 : decode cX6_addCall 4 = .ok (.getfield 21, 3) := by decide +kernel
theorem dX6_addCall_7 : decode cX6_addCall 7 = .ok (.iload_n 1, 1) := by decide +kernel
theorem dX6_addCall_8 : decode cX6_addCall 8 = .ok (.iaload, 1) := by decide +kernel
theorem dX6_addCall_9 : decode cX6_addCall 9 = .ok (.iadd, 1) := by decide +kernel
theorem dX6_addCall_10 : decode cX6_addCall 10 = .ok (.istore 4, 2) := by decide +kernel
theorem dX6_addCall_12 : decode cX6_addCall 12 = .ok (.aload_n 0, 1) := by decide +kernel
theorem dX6_addCall_13 : decode cX6_addCall 13 = .ok (.getfield 24, 3) := by decide +kernel
theorem dX6_addCall_16 : decode cX6_addCall 16 = .ok (.iload 4, 2) := by decide +kernel
theorem dX6_addCall_18 : decode cX6_addCall 18 = .ok (.iload_n 2, 1) := by decide +kernel
theorem dX6_addCall_19 : decode cX6_addCall 19 = .ok (.iastore, 1) := by decide +kernel
theorem dX6_addCall_20 : decode cX6_addCall 20 = .ok (.aload_n 0, 1) := by decide +kernel
theorem dX6_addCall_21 : decode cX6_addCall 21 = .ok (.getfield 27, 3) := by decide +kernel
theorem dX6_addCall_24 : decode cX6_addCall 24 = .ok (.iload 4, 2) := by decide +kernel
theorem dX6_addCall_26 : decode cX6_addCall 26 = .ok (.iload_n 3, 1) := by decide +kernel
theorem dX6_addCall_27 : decode cX6_addCall 27 = .ok (.iastore, 1) := by decide +kernel
theorem dX6_addCall_28 : decode cX6_addCall 28 = .ok (.aload_n 0, 1) := by decide +kernel
theorem dX6_addCall_29 : decode cX6_addCall 29 = .ok (.getfield 21, 3) := by decide +kernel
theorem dX6_addCall_32 : decode cX6_addCall 32 = .ok (.iload_n 1, 1) := by decide +kernel
theorem dX6_addCall_33 : decode cX6_addCall 33 = .ok (.dup2, 1) := by decide +kernel
theorem dX6_addCall_34 : decode cX6_addCall 34 = .ok (.iaload, 1) := by decide +kernel
theorem dX6_addCall_35 : decode cX6_addCall 35 = .ok (.iconst 1, 1) := by decide +kernel
theorem dX6_addCall_36 : decode cX6_addCall 36 = .ok (.iadd, 1) := by decide +kernel
theorem dX6_addCall_37 : decode cX6_addCall 37 = .ok (.iastore, 1) := by decide +kernel
theorem dX6_addCall_38 : decode cX6_addCall 38 = .ok (.aload_n 0, 1) := by decide +kernel
theorem dX6_addCall_39 : decode cX6_addCall 39 = .ok (.getfield 21, 3) := by decide +kernel
theorem dX6_addCall_42 : decode cX6_addCall 42 = .ok (.iload_n 1, 1) := by decide +kernel
theorem dX6_addCall_43 : decode cX6_addCall 43 = .ok (.iaload, 1) := by decide +kernel
theorem dX6_addCall_44 : decode cX6_addCall 44 = .ok (.ireturn, 1) := by decide +kernel
theorem dX7_ofNumber_0 : decode cX7_ofNumber 0 = .ok (.bipush (-99), 2) := by decide +kernel
theorem dX7_ofNumber_2 : decode cX7_ofNumber 2 = .ok (.bipush 99, 2) := by decide +kernel
theorem dX7_ofNumber_4 : decode cX7_ofNumber 4 = .ok (.iload_n 0, 1) := by decide +kernel
theorem dX7_ofNumber_5 : decode cX7_ofNumber 5 = .ok (.invokestatic 9, 3) := by decide +kernel
theorem dX7_ofNumber_8 : decode cX7_ofNumber 8 = .ok (.invokestatic 15, 3) := by decide +kernel
theorem dX7_ofNumber_11 : decode cX7_ofNumber 11 = .ok (.iconst 5, 1) := by decide +kernel
theorem dX7_ofNumber_12 : decode cX7_ofNumber 12 = .ok (.ishl, 1) := by decide +kernel
theorem dX7_ofNumber_13 : decode cX7_ofNumber 13 = .ok (.bipush 8, 2) := by decide +kernel
theorem dX7_ofNumber_15 : decode cX7_ofNumber 15 = .ok (.ior, 1) := by decide +kernel
theorem dX7_ofNumber_16 : decode cX7_ofNumber 16 = .ok (.ireturn, 1) := by decide +kernel
theorem dX7_ofNode_0 : decode cX7_ofNode 0 = .ok (.iload_n 0, 1) := by decide +kernel
theorem dX7_ofNode_1 : decode cX7_ofNode 1 = .ok (.iconst 5, 1) := by decide +kernel
theorem dX7_ofNode_2 : decode cX7_ofNode 2 = .ok (.ishl, 1) := by decide +kernel
theorem dX7_ofNode_3 : decode cX7_ofNode 3 = .ok (.bipush 16, 2) := by decide +kernel
theorem dX7_ofNode_5 : decode cX7_ofNode 5 = .ok (.ior, 1) := by decide +kernel
theorem dX7_ofNode_6 : decode cX7_ofNode 6 = .ok (.ireturn, 1) := by decide +kernel
theorem dX7_kind_0 : decode cX7_kind 0 = .ok (.iload_n 0, 1) := by decide +kernel
theorem dX7_kind_1 : decode cX7_kind 1 = .ok (.iconst 3, 1) := by decide +kernel
theorem dX7_kind_2 : decode cX7_kind 2 = .ok (.ishr, 1) := by decide +kernel
theorem dX7_kind_3 : decode cX7_kind 3 = .ok (.iconst 3, 1) := by decide +kernel
theorem dX7_kind_4 : decode cX7_kind 4 = .ok (.iand, 1) := by decide +kernel
theorem dX7_kind_5 : decode cX7_kind 5 = .ok (.ireturn, 1) := by decide +kernel
theorem dX7_amount_0 : decode cX7_amount 0 = .ok (.iload_n 0, 1) := by decide +kernel
theorem dX7_amount_1 : decode cX7_amount 1 = .ok (.iconst 5, 1) := by decide +kernel
theorem dX7_amount_2 : decode cX7_amount 2 = .ok (.ishr, 1) := by decide +kernel
theorem dX7_amount_3 : decode cX7_amount 3 = .ok (.ireturn, 1) := by decide +kernel
theorem dX7_areAlike_0 : decode cX7_areAlike 0 = .ok (.iload_n 0, 1) := by decide +kernel
theorem dX7_areAlike_1 : decode cX7_areAlike 1 = .ok (.iconst 2, 1) := by decide +kernel
theorem dX7_areAlike_2 : decode cX7_areAlike 2 = .ok (.ishr, 1) := by decide +kernel
theorem dX7_areAlike_3 : decode cX7_areAlike 3 = .ok (.iload_n 1, 1) := by decide +kernel
theorem dX7_areAlike_4 : decode cX7_areAlike 4 = .ok (.iconst 2, 1) := by decide +kernel
theorem dX7_areAlike_5 : decode cX7_areAlike 5 = .ok (.ishr, 1) := by decide +kernel
theorem dX7_areAlike_6 : decode cX7_areAlike 6 = .ok (.if_icmp .ne 7, 3) := by decide +kernel
theorem dX7_areAlike_9 : decode cX7_areAlike 9 = .ok (.iconst 1, 1) := by decide +kernel
theorem dX7_areAlike_10 : decode cX7_areAlike 10 = .ok (.goto 4, 3) := by decide +kernel
theorem dX7_areAlike_13 : decode cX7_areAlike 13 = .ok (.iconst 0, 1) := by decide +kernel
theorem dX7_areAlike_14 : decode cX7_areAlike 14 = .ok (.ireturn, 1) := by decide +kernel
theorem dX7_marked_0 : decode cX7_marked 0 = .ok (.iload_n 0, 1) := by decide +kernel
theorem dX7_marked_1 : decode cX7_marked 1 = .ok (.iconst 3, 1) := by decide +kernel
theorem dX7_marked_2 : decode cX7_marked 2 = .ok (.ishr, 1) := by decide +kernel
theorem dX7_marked_3 : decode cX7_marked 3 = .ok (.iconst 3, 1) := by decide +kernel
theorem dX7_marked_4 : decode cX7_marked 4 = .ok (.iand, 1) := by decide +kernel
theorem dX7_marked_5 : decode cX7_marked 5 = .ok (.ifCond .ne 5, 3) := by decide +kernel
theorem dX7_marked_8 : decode cX7_marked 8 = .ok (.iload_n 0, 1) := by decide +kernel
theorem dX7_marked_9 : decode cX7_marked 9 = .ok (.ireturn, 1) := by decide +kernel
theorem dX7_marked_10 : decode cX7_marked 10 = .ok (.iload_n 0, 1) := by decide +kernel
theorem dX7_marked_11 : decode cX7_marked 11 = .ok (.bipush (-5), 2) := by decide +kernel
theorem dX7_marked_13 : decode cX7_marked 13 = .ok (.iand, 1) := by decide +kernel
theorem dX7_marked_14 : decode cX7_marked 14 = .ok (.iload_n 1, 1) := by decide +kernel
theorem dX7_marked_15 : decode cX7_marked 15 = .ok (.iconst 2, 1) := by decide +kernel
theorem dX7_marked_16 : decode cX7_marked 16 = .ok (.ishl, 1) := by decide +kernel
theorem dX7_marked_17 : decode cX7_marked 17 = .ok (.ior, 1) := by decide +kernel
theorem dX7_marked_18 : decode cX7_marked 18 = .ok (.ireturn, 1) := by decide +kernel
theorem dX7_part_0 : decode cX7_part 0 = .ok (.iload_n 1, 1) := by decide +kernel
theorem dX7_part_1 : decode cX7_part 1 = .ok (.tableswitch 43 0 2 #[27, 32, 37], 27) := by decide +kernel
theorem dX7_part_28 : decode cX7_part 28 = .ok (.iload_n 0, 1) := by decide +kernel
theorem dX7_part_29 : decode cX7_part 29 = .ok (.invokestatic 20, 3) := by decide +kernel
theorem dX7_part_32 : decode cX7_part 32 = .ok (.ireturn, 1) := by decide +kernel
theorem dX7_part_33 : decode cX7_part 33 = .ok (.iload_n 0, 1) := by decide +kernel
theorem dX7_part_34 : decode cX7_part 34 = .ok (.invokestatic 24, 3) := by decide +kernel
theorem dX7_part_37 : decode cX7_part 37 = .ok (.ireturn, 1) := by decide +kernel
theorem dX7_part_38 : decode cX7_part 38 = .ok (.iload_n 0, 1) := by decide +kernel
theorem dX7_part_39 : decode cX7_part 39 = .ok (.iconst 2, 1) := by decide +kernel
theorem dX7_part_40 : decode cX7_part 40 = .ok (.ishr, 1) := by decide +kernel
theorem dX7_part_41 : decode cX7_part 41 = .ok (.iconst 1, 1) := by decide +kernel
theorem dX7_part_42 : decode cX7_part 42 = .ok (.iand, 1) := by decide +kernel
theorem dX7_part_43 : decode cX7_part 43 = .ok (.ireturn, 1) := by decide +kernel
theorem dX7_part_44 : decode cX7_part 44 = .ok (.iload_n 0, 1) := by decide +kernel
theorem dX7_part_45 : decode cX7_part 45 = .ok (.iconst 3, 1) := by decide +kernel
theorem dX7_part_46 : decode cX7_part 46 = .ok (.iand, 1) := by decide +kernel
theorem dX7_part_47 : decode cX7_part 47 = .ok (.ireturn, 1) := by decide +kernel
theorem dX7_lack_0 : decode cX7_lack 0 = .ok (.iload_n 0, 1) := by decide +kernel
theorem dX7_lack_1 : decode cX7_lack 1 = .ok (.iconst 3, 1) := by decide +kernel
theorem dX7_lack_2 : decode cX7_lack 2 = .ok (.ishr, 1) := by decide +kernel
theorem dX7_lack_3 : decode cX7_lack 3 = .ok (.iconst 3, 1) := by decide +kernel
theorem dX7_lack_4 : decode cX7_lack 4 = .ok (.iand, 1) := by decide +kernel
theorem dX7_lack_5 : decode cX7_lack 5 = .ok (.istore_n 2, 1) := by decide +kernel
theorem dX7_lack_6 : decode cX7_lack 6 = .ok (.iload_n 2, 1) := by decide +kernel
theorem dX7_lack_7 : decode cX7_lack 7 = .ok (.iload_n 1, 1) := by decide +kernel
theorem dX7_lack_8 : decode cX7_lack 8 = .ok (.if_icmp .ne 5, 3) := by decide +kernel
theorem dX7_lack_11 : decode cX7_lack 11 = .ok (.iconst 0, 1) := by decide +kernel
theorem dX7_lack_12 : decode cX7_lack 12 = .ok (.ireturn, 1) := by decide +kernel
theorem dX7_lack_13 : decode cX7_lack 13 = .ok (.iload_n 2, 1) := by decide +kernel
theorem dX7_lack_14 : decode cX7_lack 14 = .ok (.ifCond .ne 7, 3) := by decide +kernel
theorem dX7_lack_17 : decode cX7_lack 17 = .ok (.iconst 1, 1) := by decide +kernel
theorem dX7_lack_18 : decode cX7_lack 18 = .ok (.goto 4, 3) := by decide +kernel
theorem dX7_lack_21 : decode cX7_lack 21 = .ok (.iconst 2, 1) := by decide +kernel
theorem dX7_lack_22 : decode cX7_lack 22 = .ok (.ireturn, 1) := by decide +kernel
theorem dX7_answerFrom_0 : decode cX7_answerFrom 0 = .ok (.iload_n 0, 1) := by decide +kernel
theorem dX7_answerFrom_1 : decode cX7_answerFrom 1 = .ok (.invokestatic 20, 3) := by decide +kernel
theorem dX7_answerFrom_4 : decode cX7_answerFrom 4 = .ok (.lookupswitch 34 #[(0, 28), (2, 31)], 28) := by decide +kernel
theorem dX7_answerFrom_32 : decode cX7_answerFrom 32 = .ok (.bipush (-100), 2) := by decide +kernel
theorem dX7_answerFrom_34 : decode cX7_answerFrom 34 = .ok (.ireturn, 1) := by decide +kernel
theorem dX7_answerFrom_35 : decode cX7_answerFrom 35 = .ok (.bipush 100, 2) := by decide +kernel
theorem dX7_answerFrom_37 : decode cX7_answerFrom 37 = .ok (.ireturn, 1) := by decide +kernel
theorem dX7_answerFrom_38 : decode cX7_answerFrom 38 = .ok (.iload_n 0, 1) := by decide +kernel
theorem dX7_answerFrom_39 : decode cX7_answerFrom 39 = .ok (.invokestatic 24, 3) := by decide +kernel
theorem dX7_answerFrom_42 : decode cX7_answerFrom 42 = .ok (.ireturn, 1) := by decide +kernel
