def RX0 : String := "CacheDiary$Copies"
def TX0 : u_T := fun k => match k with
  | 0 => ("CacheDiary$Copies", "kind", "[I", true)
  | 1 => ("CacheDiary$Copies", "value", "[I", true)
  | 2 => ("CacheDiary$Copies", "slot", "[I", true)
  | 3 => ("CacheDiary$Copies", "lastUse", "[I", true)
  | _ => ("CacheDiary$Copies", "uses", "I", false)
def tyX0 : Nat → FieldType := fun k => match k with
  | 0 => .array .int
  | 1 => .array .int
  | 2 => .array .int
  | 3 => .array .int
  | _ => .int
abbrev wsX00 : List Cond := u_ws RX0 TX0 5
theorem nmX0 : ∀ a, a < 5 → ∀ b, b < 5 → a ≠ b → (TX0 a).2.1 ≠ (TX0 b).2.1 := by decide +kernel
theorem tyX0_ok : ∀ k, k < 5 → parseFieldDescriptor (TX0 k).2.2.1 = some (tyX0 k) := by decide +kernel
abbrev cX0_init : ByteArray := prog_2_method_1_code
def yX0_init : MethodName := ⟨RX0, "<init>", "()V"⟩
abbrev cX0_removeAll : ByteArray := prog_2_method_2_code
def yX0_removeAll : MethodName := ⟨RX0, "removeAll", "()V"⟩
abbrev cX0_takeOver : ByteArray := prog_2_method_3_code
def yX0_takeOver : MethodName := ⟨RX0, "takeOver", "(LCacheDiary$Copies;)V"⟩
abbrev cX0_kindOf : ByteArray := prog_2_method_4_code
def yX0_kindOf : MethodName := ⟨RX0, "kindOf", "(II)I"⟩
abbrev cX0_valueOf : ByteArray := prog_2_method_5_code
def yX0_valueOf : MethodName := ⟨RX0, "valueOf", "(II)I"⟩
abbrev cX0_add : ByteArray := prog_2_method_6_code
def yX0_add : MethodName := ⟨RX0, "add", "(IIII)V"⟩
abbrev cX0_share : ByteArray := prog_2_method_7_code
def yX0_share : MethodName := ⟨RX0, "share", "(II)V"⟩
abbrev cX0_own : ByteArray := prog_2_method_8_code
def yX0_own : MethodName := ⟨RX0, "own", "(III)V"⟩
abbrev cX0_use : ByteArray := prog_2_method_9_code
def yX0_use : MethodName := ⟨RX0, "use", "(II)V"⟩
abbrev cX0_remove : ByteArray := prog_2_method_10_code
def yX0_remove : MethodName := ⟨RX0, "remove", "(II)V"⟩
abbrev cX0_removeOthers : ByteArray := prog_2_method_11_code
def yX0_removeOthers : MethodName := ⟨RX0, "removeOthers", "(II)V"⟩
abbrev cX0_ownerOf : ByteArray := prog_2_method_12_code
def yX0_ownerOf : MethodName := ⟨RX0, "ownerOf", "(I)I"⟩
abbrev cX0_sharersOf : ByteArray := prog_2_method_13_code
def yX0_sharersOf : MethodName := ⟨RX0, "sharersOf", "(I)I"⟩
abbrev cX0_countOf : ByteArray := prog_2_method_14_code
def yX0_countOf : MethodName := ⟨RX0, "countOf", "(I)I"⟩
abbrev cX0_freeSlot : ByteArray := prog_2_method_15_code
def yX0_freeSlot : MethodName := ⟨RX0, "freeSlot", "(II)I"⟩
abbrev cX0_leastUsed : ByteArray := prog_2_method_16_code
def yX0_leastUsed : MethodName := ⟨RX0, "leastUsed", "(I)I"⟩
abbrev cX0_usedLater : ByteArray := prog_2_method_17_code
def yX0_usedLater : MethodName := ⟨RX0, "usedLater", "(II)I"⟩
abbrev cX0_fact : ByteArray := prog_2_method_18_code
def yX0_fact : MethodName := ⟨RX0, "fact", "(III)I"⟩
def RX1 : String := "CacheDiary$Diary"
def TX1 : u_T := fun k => match k with
  | 0 => ("CacheDiary$Diary", "lastUse", "[I", true)
  | 1 => ("CacheDiary$Diary", "uses", "I", false)
  | 2 => ("CacheDiary$Diary", "marks", "I", false)
  | 3 => ("CacheDiary$Diary", "room", "I", false)
  | 4 => ("CacheDiary$Diary", "pages", "I", false)
  | 5 => ("CacheDiary$Diary", "timesAsked", "I", false)
  | _ => ("CacheDiary$Diary", "tornOut", "I", false)
def tyX1 : Nat → FieldType := fun k => match k with
  | 0 => .array .int
  | 1 => .int
  | 2 => .int
  | 3 => .int
  | 4 => .int
  | 5 => .int
  | _ => .int
abbrev wsX10 : List Cond := u_ws RX1 TX1 7
theorem nmX1 : ∀ a, a < 7 → ∀ b, b < 7 → a ≠ b → (TX1 a).2.1 ≠ (TX1 b).2.1 := by decide +kernel
theorem tyX1_ok : ∀ k, k < 7 → parseFieldDescriptor (TX1 k).2.2.1 = some (tyX1 k) := by decide +kernel
abbrev cX1_init : ByteArray := prog_3_method_1_code
def yX1_init : MethodName := ⟨RX1, "<init>", "()V"⟩
abbrev cX1_empty : ByteArray := prog_3_method_2_code
def yX1_empty : MethodName := ⟨RX1, "empty", "(I)V"⟩
abbrev cX1_takeOver : ByteArray := prog_3_method_3_code
def yX1_takeOver : MethodName := ⟨RX1, "takeOver", "(LCacheDiary$Diary;)V"⟩
abbrev cX1_hasPage : ByteArray := prog_3_method_4_code
def yX1_hasPage : MethodName := ⟨RX1, "hasPage", "(I)Z"⟩
abbrev cX1_isMarked : ByteArray := prog_3_method_5_code
def yX1_isMarked : MethodName := ⟨RX1, "isMarked", "(I)Z"⟩
abbrev cX1_lineToTear : ByteArray := prog_3_method_6_code
def yX1_lineToTear : MethodName := ⟨RX1, "lineToTear", "()I"⟩
abbrev cX1_tearOut : ByteArray := prog_3_method_7_code
def yX1_tearOut : MethodName := ⟨RX1, "tearOut", "(IZ)V"⟩
abbrev cX1_makePage : ByteArray := prog_3_method_8_code
def yX1_makePage : MethodName := ⟨RX1, "makePage", "(I)V"⟩
abbrev cX1_use : ByteArray := prog_3_method_9_code
def yX1_use : MethodName := ⟨RX1, "use", "(I)V"⟩
def RX2 : String := "CacheDiary$History"
def TX2 : u_T := fun k => match k with
  | 0 => ("CacheDiary$History", "saved", "[LCacheDiary$Machine;", true)
  | _ => ("CacheDiary$History", "count", "I", false)
def tyX2 : Nat → FieldType := fun k => match k with
  | 0 => .array (.object "CacheDiary$Machine")
  | _ => .int
abbrev wsX20 : List Cond := u_ws RX2 TX2 2
theorem nmX2 : ∀ a, a < 2 → ∀ b, b < 2 → a ≠ b → (TX2 a).2.1 ≠ (TX2 b).2.1 := by decide +kernel
theorem tyX2_ok : ∀ k, k < 2 → parseFieldDescriptor (TX2 k).2.2.1 = some (tyX2 k) := by decide +kernel
abbrev cX2_init : ByteArray := prog_4_method_1_code
def yX2_init : MethodName := ⟨RX2, "<init>", "()V"⟩
abbrev cX2_save : ByteArray := prog_4_method_2_code
def yX2_save : MethodName := ⟨RX2, "save", "(LCacheDiary$Machine;)V"⟩
abbrev cX2_dropOldest : ByteArray := prog_4_method_3_code
def yX2_dropOldest : MethodName := ⟨RX2, "dropOldest", "()V"⟩
abbrev cX2_restore : ByteArray := prog_4_method_4_code
def yX2_restore : MethodName := ⟨RX2, "restore", "(LCacheDiary$Machine;)V"⟩
def RX3 : String := "CacheDiary$Log"
def TX3 : u_T := fun k => match k with
  | 0 => ("CacheDiary$Log", "facts", "[I", true)
  | _ => ("CacheDiary$Log", "count", "I", false)
def tyX3 : Nat → FieldType := fun k => match k with
  | 0 => .array .int
  | _ => .int
abbrev wsX30 : List Cond := u_ws RX3 TX3 2
theorem nmX3 : ∀ a, a < 2 → ∀ b, b < 2 → a ≠ b → (TX3 a).2.1 ≠ (TX3 b).2.1 := by decide +kernel
theorem tyX3_ok : ∀ k, k < 2 → parseFieldDescriptor (TX3 k).2.2.1 = some (tyX3 k) := by decide +kernel
abbrev cX3_init : ByteArray := prog_5_method_1_code
def yX3_init : MethodName := ⟨RX3, "<init>", "()V"⟩
abbrev cX3_takeOver : ByteArray := prog_5_method_2_code
def yX3_takeOver : MethodName := ⟨RX3, "takeOver", "(LCacheDiary$Log;)V"⟩
abbrev cX3_add : ByteArray := prog_5_method_3_code
def yX3_add : MethodName := ⟨RX3, "add", "(IIIIII)V"⟩
abbrev cX3_fact : ByteArray := prog_5_method_4_code
def yX3_fact : MethodName := ⟨RX3, "fact", "(II)I"⟩
def RX4 : String := "CacheDiary$Machine"
def TX4 : u_T := fun k => match k with
  | 0 => ("CacheDiary$Machine", "memory", "[I", true)
  | 1 => ("CacheDiary$Machine", "lastWritten", "[I", true)
  | 2 => ("CacheDiary$Machine", "copies", "LCacheDiary$Copies;", true)
  | 3 => ("CacheDiary$Machine", "diary", "LCacheDiary$Diary;", true)
  | 4 => ("CacheDiary$Machine", "requests", "LCacheDiary$Requests;", true)
  | 5 => ("CacheDiary$Machine", "log", "LCacheDiary$Log;", true)
  | 6 => ("CacheDiary$Machine", "caches", "I", false)
  | 7 => ("CacheDiary$Machine", "slots", "I", false)
  | 8 => ("CacheDiary$Machine", "time", "I", false)
  | 9 => ("CacheDiary$Machine", "messages", "I", false)
  | 10 => ("CacheDiary$Machine", "hits", "I", false)
  | 11 => ("CacheDiary$Machine", "misses", "I", false)
  | 12 => ("CacheDiary$Machine", "races", "I", false)
  | _ => ("CacheDiary$Machine", "broughtBack", "I", false)
def tyX4 : Nat → FieldType := fun k => match k with
  | 0 => .array .int
  | 1 => .array .int
  | 2 => .object "CacheDiary$Copies"
  | 3 => .object "CacheDiary$Diary"
  | 4 => .object "CacheDiary$Requests"
  | 5 => .object "CacheDiary$Log"
  | 6 => .int
  | 7 => .int
  | 8 => .int
  | 9 => .int
  | 10 => .int
  | 11 => .int
  | 12 => .int
  | _ => .int
abbrev wsX40 : List Cond := u_ws RX4 TX4 14
theorem nmX4 : ∀ a, a < 14 → ∀ b, b < 14 → a ≠ b → (TX4 a).2.1 ≠ (TX4 b).2.1 := by decide +kernel
theorem tyX4_ok : ∀ k, k < 14 → parseFieldDescriptor (TX4 k).2.2.1 = some (tyX4 k) := by decide +kernel
abbrev cX4_init : ByteArray := prog_6_method_1_code
def yX4_init : MethodName := ⟨RX4, "<init>", "()V"⟩
abbrev cX4_startAnew : ByteArray := prog_6_method_2_code
def yX4_startAnew : MethodName := ⟨RX4, "startAnew", "(III)V"⟩
abbrev cX4_takeOver : ByteArray := prog_6_method_3_code
def yX4_takeOver : MethodName := ⟨RX4, "takeOver", "(LCacheDiary$Machine;)V"⟩
abbrev cX4_hasTimeFor : ByteArray := prog_6_method_4_code
def yX4_hasTimeFor : MethodName := ⟨RX4, "hasTimeFor", "(I)Z"⟩
abbrev cX4_letPass : ByteArray := prog_6_method_5_code
def yX4_letPass : MethodName := ⟨RX4, "letPass", "(I)I"⟩
abbrev cX4_tick : ByteArray := prog_6_method_6_code
def yX4_tick : MethodName := ⟨RX4, "tick", "()I"⟩
abbrev cX4_isHit : ByteArray := prog_6_method_7_code
def yX4_isHit : MethodName := ⟨RX4, "isHit", "(IIZ)Z"⟩
abbrev cX4_costOf : ByteArray := prog_6_method_8_code
def yX4_costOf : MethodName := ⟨RX4, "costOf", "(IIZ)I"⟩
abbrev cX4_serve : ByteArray := prog_6_method_9_code
def yX4_serve : MethodName := ⟨RX4, "serve", "(IIZ)V"⟩
abbrev cX4_fetch : ByteArray := prog_6_method_10_code
def yX4_fetch : MethodName := ⟨RX4, "fetch", "(IIZ)V"⟩
abbrev cX4_makeRoomInDiary : ByteArray := prog_6_method_11_code
def yX4_makeRoomInDiary : MethodName := ⟨RX4, "makeRoomInDiary", "()V"⟩
abbrev cX4_bringBack : ByteArray := prog_6_method_12_code
def yX4_bringBack : MethodName := ⟨RX4, "bringBack", "(II)V"⟩
abbrev cX4_throwAway : ByteArray := prog_6_method_13_code
def yX4_throwAway : MethodName := ⟨RX4, "throwAway", "(II)V"⟩
abbrev cX4_lineToDrop : ByteArray := prog_6_method_14_code
def yX4_lineToDrop : MethodName := ⟨RX4, "lineToDrop", "(I)I"⟩
abbrev cX4_lineFact : ByteArray := prog_6_method_15_code
def yX4_lineFact : MethodName := ⟨RX4, "lineFact", "(II)I"⟩
abbrev cX4_number : ByteArray := prog_6_method_16_code
def yX4_number : MethodName := ⟨RX4, "number", "(I)I"⟩
def RX5 : String := "CacheDiary$OrderReader"
def TX5 : u_T := fun k => match k with
  | 0 => ("CacheDiary$OrderReader", "cache", "[I", true)
  | 1 => ("CacheDiary$OrderReader", "line", "[I", true)
  | 2 => ("CacheDiary$OrderReader", "number", "[I", true)
  | 3 => ("CacheDiary$OrderReader", "count", "I", false)
  | 4 => ("CacheDiary$OrderReader", "place", "LCacheDiary$Place;", false)
  | 5 => ("CacheDiary$OrderReader", "write", "Z", false)
  | 6 => ("CacheDiary$OrderReader", "readCache", "I", false)
  | 7 => ("CacheDiary$OrderReader", "readLine", "I", false)
  | 8 => ("CacheDiary$OrderReader", "readNumber", "I", false)
  | 9 => ("CacheDiary$OrderReader", "digits", "I", false)
  | _ => ("CacheDiary$OrderReader", "firstDigit", "I", false)
def tyX5 : Nat → FieldType := fun k => match k with
  | 0 => .array .int
  | 1 => .array .int
  | 2 => .array .int
  | 3 => .int
  | 4 => .object "CacheDiary$Place"
  | 5 => .boolean
  | 6 => .int
  | 7 => .int
  | 8 => .int
  | 9 => .int
  | _ => .int
abbrev wsX50 : List Cond := u_ws RX5 TX5 11
theorem nmX5 : ∀ a, a < 11 → ∀ b, b < 11 → a ≠ b → (TX5 a).2.1 ≠ (TX5 b).2.1 := by decide +kernel
theorem tyX5_ok : ∀ k, k < 11 → parseFieldDescriptor (TX5 k).2.2.1 = some (tyX5 k) := by decide +kernel
abbrev cX5_init : ByteArray := prog_7_method_1_code
def yX5_init : MethodName := ⟨RX5, "<init>", "()V"⟩
abbrev cX5_isTicks : ByteArray := prog_7_method_2_code
def yX5_isTicks : MethodName := ⟨RX5, "isTicks", "(I)Z"⟩
abbrev cX5_readAll : ByteArray := prog_7_method_3_code
def yX5_readAll : MethodName := ⟨RX5, "readAll", "([BI)I"⟩
abbrev cX5_take : ByteArray := prog_7_method_4_code
def yX5_take : MethodName := ⟨RX5, "take", "(II)I"⟩
abbrev cX5_takeKind : ByteArray := prog_7_method_5_code
def yX5_takeKind : MethodName := ⟨RX5, "takeKind", "(I)Z"⟩
abbrev cX5_takeCache : ByteArray := prog_7_method_6_code
def yX5_takeCache : MethodName := ⟨RX5, "takeCache", "(I)Z"⟩
abbrev cX5_takeColon : ByteArray := prog_7_method_7_code
def yX5_takeColon : MethodName := ⟨RX5, "takeColon", "(I)Z"⟩
abbrev cX5_startNumber : ByteArray := prog_7_method_8_code
def yX5_startNumber : MethodName := ⟨RX5, "startNumber", "(LCacheDiary$Place;)V"⟩
abbrev cX5_takeOfNumber : ByteArray := prog_7_method_9_code
def yX5_takeOfNumber : MethodName := ⟨RX5, "takeOfNumber", "(II)I"⟩
abbrev cX5_takeDigit : ByteArray := prog_7_method_10_code
def yX5_takeDigit : MethodName := ⟨RX5, "takeDigit", "(II)I"⟩
abbrev cX5_keepOrder : ByteArray := prog_7_method_11_code
def yX5_keepOrder : MethodName := ⟨RX5, "keepOrder", "()V"⟩
def RX6 : String := "CacheDiary$Place"
def TX6 : u_T := fun k => match k with
  | _ => ("", "", "", false)
def tyX6 : Nat → FieldType := fun k => match k with
  | _ => .int
abbrev wsX60 : List Cond := u_ws RX6 TX6 0
theorem nmX6 : ∀ a, a < 0 → ∀ b, b < 0 → a ≠ b → (TX6 a).2.1 ≠ (TX6 b).2.1 := by decide +kernel
theorem tyX6_ok : ∀ k, k < 0 → parseFieldDescriptor (TX6 k).2.2.1 = some (tyX6 k) := by decide +kernel
def RX7 : String := "CacheDiary$Requests"
def TX7 : u_T := fun k => match k with
  | 0 => ("CacheDiary$Requests", "line", "[I", true)
  | 1 => ("CacheDiary$Requests", "value", "[I", true)
  | _ => ("CacheDiary$Requests", "putOff", "[I", true)
def tyX7 : Nat → FieldType := fun k => match k with
  | 0 => .array .int
  | 1 => .array .int
  | _ => .array .int
abbrev wsX70 : List Cond := u_ws RX7 TX7 3
theorem nmX7 : ∀ a, a < 3 → ∀ b, b < 3 → a ≠ b → (TX7 a).2.1 ≠ (TX7 b).2.1 := by decide +kernel
theorem tyX7_ok : ∀ k, k < 3 → parseFieldDescriptor (TX7 k).2.2.1 = some (tyX7 k) := by decide +kernel
abbrev cX7_init : ByteArray := prog_9_method_1_code
def yX7_init : MethodName := ⟨RX7, "<init>", "()V"⟩
abbrev cX7_forgetAll : ByteArray := prog_9_method_2_code
def yX7_forgetAll : MethodName := ⟨RX7, "forgetAll", "()V"⟩
abbrev cX7_takeOver : ByteArray := prog_9_method_3_code
def yX7_takeOver : MethodName := ⟨RX7, "takeOver", "(LCacheDiary$Requests;)V"⟩
abbrev cX7_isPending : ByteArray := prog_9_method_4_code
def yX7_isPending : MethodName := ⟨RX7, "isPending", "(I)Z"⟩
abbrev cX7_isWrite : ByteArray := prog_9_method_5_code
def yX7_isWrite : MethodName := ⟨RX7, "isWrite", "(I)Z"⟩
abbrev cX7_ask : ByteArray := prog_9_method_6_code
def yX7_ask : MethodName := ⟨RX7, "ask", "(III)V"⟩
abbrev cX7_forget : ByteArray := prog_9_method_7_code
def yX7_forget : MethodName := ⟨RX7, "forget", "(I)V"⟩
abbrev cX7_count : ByteArray := prog_9_method_8_code
def yX7_count : MethodName := ⟨RX7, "count", "()I"⟩
abbrev cX7_fact : ByteArray := prog_9_method_9_code
def yX7_fact : MethodName := ⟨RX7, "fact", "(II)I"⟩
def RX8 : String := "CacheDiary"
def TX8 : u_T := fun k => match k with
  | 0 => ("CacheDiary", "machine", "LCacheDiary$Machine;", true)
  | 1 => ("CacheDiary", "trial", "LCacheDiary$Machine;", true)
  | 2 => ("CacheDiary", "history", "LCacheDiary$History;", true)
  | 3 => ("CacheDiary", "text", "[B", true)
  | 4 => ("CacheDiary", "textLength", "I", false)
  | _ => ("CacheDiary", "orders", "LCacheDiary$OrderReader;", true)
def tyX8 : Nat → FieldType := fun k => match k with
  | 0 => .object "CacheDiary$Machine"
  | 1 => .object "CacheDiary$Machine"
  | 2 => .object "CacheDiary$History"
  | 3 => .array .byte
  | 4 => .int
  | _ => .object "CacheDiary$OrderReader"
abbrev wsX80 : List Cond := u_ws RX8 TX8 6
theorem nmX8 : ∀ a, a < 6 → ∀ b, b < 6 → a ≠ b → (TX8 a).2.1 ≠ (TX8 b).2.1 := by decide +kernel
theorem tyX8_ok : ∀ k, k < 6 → parseFieldDescriptor (TX8 k).2.2.1 = some (tyX8 k) := by decide +kernel
abbrev cX8_init : ByteArray := prog_1_method_1_code
def yX8_init : MethodName := ⟨RX8, "<init>", "()V"⟩
abbrev cX8_begin : ByteArray := prog_1_method_2_code
def yX8_begin : MethodName := ⟨RX8, "begin", "(III)I"⟩
abbrev cX8_read : ByteArray := prog_1_method_3_code
def yX8_read : MethodName := ⟨RX8, "read", "(II)I"⟩
abbrev cX8_write : ByteArray := prog_1_method_4_code
def yX8_write : MethodName := ⟨RX8, "write", "(III)I"⟩
abbrev cX8_pass : ByteArray := prog_1_method_6_code
def yX8_pass : MethodName := ⟨RX8, "pass", "(I)I"⟩
abbrev cX8_drop : ByteArray := prog_1_method_7_code
def yX8_drop : MethodName := ⟨RX8, "drop", "(II)I"⟩
abbrev cX8_tear : ByteArray := prog_1_method_8_code
def yX8_tear : MethodName := ⟨RX8, "tear", "(I)I"⟩
abbrev cX8_copy : ByteArray := prog_1_method_9_code
def yX8_copy : MethodName := ⟨RX8, "copy", "(III)I"⟩
abbrev cX8_line : ByteArray := prog_1_method_10_code
def yX8_line : MethodName := ⟨RX8, "line", "(II)I"⟩
abbrev cX8_pending : ByteArray := prog_1_method_11_code
def yX8_pending : MethodName := ⟨RX8, "pending", "(II)I"⟩
abbrev cX8_value : ByteArray := prog_1_method_13_code
def yX8_value : MethodName := ⟨RX8, "value", "(I)I"⟩
abbrev cX8_nextTorn : ByteArray := prog_1_method_15_code
def yX8_nextTorn : MethodName := ⟨RX8, "nextTorn", "()I"⟩
abbrev cX8_nextDropped : ByteArray := prog_1_method_16_code
def yX8_nextDropped : MethodName := ⟨RX8, "nextDropped", "(I)I"⟩
abbrev cX8_append : ByteArray := prog_1_method_20_code
def yX8_append : MethodName := ⟨RX8, "append", "(I)I"⟩
abbrev cX8_clearText : ByteArray := prog_1_method_21_code
def yX8_clearText : MethodName := ⟨RX8, "clearText", "()I"⟩
abbrev cX8_carryOut : ByteArray := prog_1_method_22_code
def yX8_carryOut : MethodName := ⟨RX8, "carryOut", "()I"⟩
abbrev cX8_undo : ByteArray := prog_1_method_23_code
def yX8_undo : MethodName := ⟨RX8, "undo", "()I"⟩
abbrev cX8_digest : ByteArray := prog_1_method_24_code
def yX8_digest : MethodName := ⟨RX8, "digest", "()J"⟩
abbrev cX8_hashLine : ByteArray := prog_1_method_25_code
def yX8_hashLine : MethodName := ⟨RX8, "hashLine", "(JI)J"⟩
abbrev cX8_isPossible : ByteArray := prog_1_method_26_code
def yX8_isPossible : MethodName := ⟨RX8, "isPossible", "(I)Z"⟩
abbrev cX8_needIndex : ByteArray := prog_1_method_27_code
def yX8_needIndex : MethodName := ⟨RX8, "needIndex", "(II)V"⟩
abbrev cX8_needRange : ByteArray := prog_1_method_28_code
def yX8_needRange : MethodName := ⟨RX8, "needRange", "(III)V"⟩
abbrev cX8_needState : ByteArray := prog_1_method_29_code
def yX8_needState : MethodName := ⟨RX8, "needState", "(Z)V"⟩
def RX9 : String := "CacheDiaryModel"
def TX9 : u_T := fun k => match k with
  | _ => ("", "", "", false)
def tyX9 : Nat → FieldType := fun k => match k with
  | _ => .int
abbrev wsX90 : List Cond := u_ws RX9 TX9 0
theorem nmX9 : ∀ a, a < 0 → ∀ b, b < 0 → a ≠ b → (TX9 a).2.1 ≠ (TX9 b).2.1 := by decide +kernel
theorem tyX9_ok : ∀ k, k < 0 → parseFieldDescriptor (TX9 k).2.2.1 = some (tyX9 k) := by decide +kernel
def RJx145de : String := "java/io/Serializable"
def TJx145de : u_T := fun k => match k with
  | _ => ("", "", "", false)
def tyJx145de : Nat → FieldType := fun k => match k with
  | _ => .int
abbrev wsJx145de0 : List Cond := u_ws RJx145de TJx145de 0
theorem nmJx145de : ∀ a, a < 0 → ∀ b, b < 0 → a ≠ b → (TJx145de a).2.1 ≠ (TJx145de b).2.1 := by decide +kernel
theorem tyJx145de_ok : ∀ k, k < 0 → parseFieldDescriptor (TJx145de k).2.2.1 = some (tyJx145de k) := by decide +kernel
def RJx29ce0 : String := "java/lang/Enum"
def TJx29ce0 : u_T := fun k => match k with
  | _ => ("", "", "", false)
def tyJx29ce0 : Nat → FieldType := fun k => match k with
  | _ => .int
abbrev wsJx29ce00 : List Cond := u_ws RJx29ce0 TJx29ce0 0
theorem nmJx29ce0 : ∀ a, a < 0 → ∀ b, b < 0 → a ≠ b → (TJx29ce0 a).2.1 ≠ (TJx29ce0 b).2.1 := by decide +kernel
theorem tyJx29ce0_ok : ∀ k, k < 0 → parseFieldDescriptor (TJx29ce0 k).2.2.1 = some (tyJx29ce0 k) := by decide +kernel
def RJ6 : String := "java/lang/Integer"
def TJ6 : u_T := fun k => match k with
  | _ => ("", "", "", false)
def tyJ6 : Nat → FieldType := fun k => match k with
  | _ => .int
abbrev wsJ60 : List Cond := u_ws RJ6 TJ6 0
theorem nmJ6 : ∀ a, a < 0 → ∀ b, b < 0 → a ≠ b → (TJ6 a).2.1 ≠ (TJ6 b).2.1 := by decide +kernel
theorem tyJ6_ok : ∀ k, k < 0 → parseFieldDescriptor (TJ6 k).2.2.1 = some (tyJ6 k) := by decide +kernel
abbrev cJ6_bitCount_0f7a4 : ByteArray := prog_17_method_49_code
def yJ6_bitCount_0f7a4 : MethodName := ⟨RJ6, "bitCount", "(I)I"⟩
def RJ0 : String := "java/lang/String"
def TJ0 : u_T := fun k => match k with
  | _ => ("", "", "", false)
def tyJ0 : Nat → FieldType := fun k => match k with
  | _ => .int
abbrev wsJ00 : List Cond := u_ws RJ0 TJ0 0
theorem nmJ0 : ∀ a, a < 0 → ∀ b, b < 0 → a ≠ b → (TJ0 a).2.1 ≠ (TJ0 b).2.1 := by decide +kernel
theorem tyJ0_ok : ∀ k, k < 0 → parseFieldDescriptor (TJ0 k).2.2.1 = some (tyJ0 k) := by decide +kernel
def RJ10 : String := "java/lang/System"
def TJ10 : u_T := fun k => match k with
  | _ => ("", "", "", false)
def tyJ10 : Nat → FieldType := fun k => match k with
  | _ => .int
abbrev wsJ100 : List Cond := u_ws RJ10 TJ10 0
theorem nmJ10 : ∀ a, a < 0 → ∀ b, b < 0 → a ≠ b → (TJ10 a).2.1 ≠ (TJ10 b).2.1 := by decide +kernel
theorem tyJ10_ok : ∀ k, k < 0 → parseFieldDescriptor (TJ10 k).2.2.1 = some (tyJ10 k) := by decide +kernel
def RJ7 : String := "java/util/Arrays"
def TJ7 : u_T := fun k => match k with
  | _ => ("", "", "", false)
def tyJ7 : Nat → FieldType := fun k => match k with
  | _ => .int
abbrev wsJ70 : List Cond := u_ws RJ7 TJ7 0
theorem nmJ7 : ∀ a, a < 0 → ∀ b, b < 0 → a ≠ b → (TJ7 a).2.1 ≠ (TJ7 b).2.1 := by decide +kernel
theorem tyJ7_ok : ∀ k, k < 0 → parseFieldDescriptor (TJ7 k).2.2.1 = some (tyJ7 k) := by decide +kernel
abbrev cJ7_fill_53178 : ByteArray := prog_22_method_103_code
def yJ7_fill_53178 : MethodName := ⟨RJ7, "fill", "([II)V"⟩
def RL : String := "CacheDiaryLaw"
abbrev cL_cell : ByteArray := method_2_code
def yL_cell : MethodName := ⟨RL, "cell", "([II)I"⟩
abbrev cL_ones : ByteArray := method_3_code
def yL_ones : MethodName := ⟨RL, "ones", "(I)I"⟩
abbrev cL_line : ByteArray := method_4_code
def yL_line : MethodName := ⟨RL, "line", "(LCacheDiary;I)Z"⟩
abbrev cL_cache : ByteArray := method_5_code
def yL_cache : MethodName := ⟨RL, "cache", "(LCacheDiary;I)Z"⟩
abbrev cL_sound : ByteArray := method_6_code
def yL_sound : MethodName := ⟨RL, "sound", "(LCacheDiary;)Z"⟩
abbrev cL_refuses : ByteArray := method_7_code
def yL_refuses : MethodName := ⟨RL, "refuses", "(LCacheDiary;I)Z"⟩
abbrev cL_acts : ByteArray := method_8_code
def yL_acts : MethodName := ⟨RL, "acts", "(LCacheDiary;I)I"⟩
abbrev cL_law : ByteArray := code
def yL_law : MethodName := ⟨RL, "law", "([I)Z"⟩
def wsL_cell : List Cond := .code yL_cell cL_cell 2 (some .int) :: ([.constant RL 7 (15551203), .constant RL 8 (2147483647)])
def wsL_ones : List Cond := .code yL_ones cL_ones 3 (some .int) :: ([])
def wsL_line_r1 : List Cond := [Cond.methodLink RL 9 yX8_value, Cond.instanceMethod yX8_value, Cond.selects RX8 yX8_value yX8_value, Cond.initialized RX8, Cond.code yX8_value cX8_value 2 (some .int), Cond.fieldLink RX8 12 "CacheDiary" "machine" "LCacheDiary$Machine;", Cond.methodLink RX8 45 yX8_needRange, Cond.static yX8_needRange, Cond.code yX8_needRange cX8_needRange 3 none, Cond.classLink RX8 213 "java/lang/IllegalArgumentException", Cond.initialized "java/lang/IllegalArgumentException", Cond.methodLink RX8 149 yX4_number, Cond.instanceMethod yX4_number, Cond.selects RX4 yX4_number yX4_number, Cond.initialized RX4, Cond.code yX4_number cX4_number 2 (some .int), Cond.fieldLink RX4 66 "CacheDiary$Machine" "caches" "I", Cond.fieldLink RX4 69 "CacheDiary$Machine" "slots" "I", Cond.fieldLink RX4 28 "CacheDiary$Machine" "diary" "LCacheDiary$Diary;", Cond.fieldLink RX4 232 "CacheDiary$Diary" "room" "I", Cond.fieldLink RX4 235 "CacheDiary$Diary" "pages" "I", Cond.fieldLink RX4 72 "CacheDiary$Machine" "time" "I", Cond.fieldLink RX4 75 "CacheDiary$Machine" "messages" "I", Cond.fieldLink RX4 78 "CacheDiary$Machine" "hits" "I"]
def wsL_line_r2 : List Cond := [Cond.fieldLink RX4 81 "CacheDiary$Machine" "misses" "I", Cond.fieldLink RX4 84 "CacheDiary$Machine" "races" "I", Cond.fieldLink RX4 238 "CacheDiary$Diary" "timesAsked" "I", Cond.fieldLink RX4 241 "CacheDiary$Diary" "tornOut" "I", Cond.fieldLink RX4 87 "CacheDiary$Machine" "broughtBack" "I", Cond.fieldLink RX4 35 "CacheDiary$Machine" "requests" "LCacheDiary$Requests;", Cond.fieldLink RX4 42 "CacheDiary$Machine" "log" "LCacheDiary$Log;", Cond.fieldLink RX4 62 "CacheDiary$Log" "count" "I", Cond.methodLink RX4 110 yX7_count, Cond.instanceMethod yX7_count, Cond.selects RX7 yX7_count yX7_count, Cond.initialized RX7, Cond.code yX7_count cX7_count 3 (some .int), Cond.fieldLink RX7 9 "CacheDiary$Requests" "line" "[I", Cond.methodLink RL 15 yX8_copy, Cond.instanceMethod yX8_copy, Cond.selects RX8 yX8_copy yX8_copy, Cond.code yX8_copy cX8_copy 4 (some .int), Cond.fieldLink RX8 55 "CacheDiary$Machine" "caches" "I", Cond.fieldLink RX8 98 "CacheDiary$Machine" "copies" "LCacheDiary$Copies;", Cond.methodLink RX8 58 yX8_needIndex, Cond.static yX8_needIndex, Cond.code yX8_needIndex cX8_needIndex 2 none, Cond.classLink RX8 206 "java/lang/IndexOutOfBoundsException"]
def wsL_line_r3 : List Cond := [Cond.initialized "java/lang/IndexOutOfBoundsException", Cond.methodLink RX8 130 yX0_fact, Cond.instanceMethod yX0_fact, Cond.selects RX0 yX0_fact yX0_fact, Cond.initialized RX0, Cond.code yX0_fact cX0_fact 5 (some .int), Cond.fieldLink RX0 9 "CacheDiary$Copies" "kind" "[I", Cond.fieldLink RX0 15 "CacheDiary$Copies" "value" "[I", Cond.fieldLink RX0 18 "CacheDiary$Copies" "slot" "[I", Cond.methodLink RX0 40 yX0_usedLater, Cond.instanceMethod yX0_usedLater, Cond.selects RX0 yX0_usedLater yX0_usedLater, Cond.code yX0_usedLater cX0_usedLater 7 (some .int), Cond.fieldLink RX0 21 "CacheDiary$Copies" "lastUse" "[I", Cond.methodLink RL 19 yX8_line, Cond.instanceMethod yX8_line, Cond.selects RX8 yX8_line yX8_line, Cond.code yX8_line cX8_line 3 (some .int), Cond.methodLink RX8 134 yX4_lineFact, Cond.instanceMethod yX4_lineFact, Cond.selects RX4 yX4_lineFact yX4_lineFact, Cond.code yX4_lineFact cX4_lineFact 3 (some .int), Cond.fieldLink RX4 9 "CacheDiary$Machine" "memory" "[I", Cond.fieldLink RX4 15 "CacheDiary$Machine" "lastWritten" "[I"]
def wsL_line_r4 : List Cond := [Cond.fieldLink RX4 21 "CacheDiary$Machine" "copies" "LCacheDiary$Copies;", Cond.methodLink RX4 147 yX0_ownerOf, Cond.instanceMethod yX0_ownerOf, Cond.selects RX0 yX0_ownerOf yX0_ownerOf, Cond.code yX0_ownerOf cX0_ownerOf 3 (some .int), Cond.methodLink RX4 151 yX0_sharersOf, Cond.instanceMethod yX0_sharersOf, Cond.selects RX0 yX0_sharersOf yX0_sharersOf, Cond.code yX0_sharersOf cX0_sharersOf 4 (some .int), Cond.methodLink RX4 141 yX1_hasPage, Cond.instanceMethod yX1_hasPage, Cond.selects RX1 yX1_hasPage yX1_hasPage, Cond.initialized RX1, Cond.code yX1_hasPage cX1_hasPage 2 (some .boolean), Cond.fieldLink RX1 9 "CacheDiary$Diary" "lastUse" "[I", Cond.methodLink RX4 144 yX1_isMarked, Cond.instanceMethod yX1_isMarked, Cond.selects RX1 yX1_isMarked yX1_isMarked, Cond.code yX1_isMarked cX1_isMarked 2 (some .boolean), Cond.fieldLink RX1 25 "CacheDiary$Diary" "marks" "I"]
def wsL_line : List Cond := .code yL_line cL_line 8 (some .boolean) :: ((wsL_line_r1 ++ (wsL_line_r2 ++ (wsL_line_r3 ++ wsL_line_r4))) ++ wsX80 ++ wsX40 ++ wsX10 ++ wsX30 ++ wsX70 ++ wsX00 ++ (vx_atS RX8 217 "java/lang/IllegalArgumentException" ["java/lang/RuntimeException", "java/lang/Exception"]).filter goodWord ++ (vx_atS RX8 210 "java/lang/IndexOutOfBoundsException" ["java/lang/RuntimeException", "java/lang/Exception"]).filter goodWord)
def wsL_cache_r1 : List Cond := [Cond.methodLink RL 15 yX8_copy, Cond.instanceMethod yX8_copy, Cond.selects RX8 yX8_copy yX8_copy, Cond.initialized RX8, Cond.code yX8_copy cX8_copy 4 (some .int), Cond.fieldLink RX8 12 "CacheDiary" "machine" "LCacheDiary$Machine;", Cond.fieldLink RX8 55 "CacheDiary$Machine" "caches" "I", Cond.fieldLink RX8 98 "CacheDiary$Machine" "copies" "LCacheDiary$Copies;", Cond.methodLink RX8 58 yX8_needIndex, Cond.static yX8_needIndex, Cond.code yX8_needIndex cX8_needIndex 2 none, Cond.classLink RX8 206 "java/lang/IndexOutOfBoundsException", Cond.initialized "java/lang/IndexOutOfBoundsException", Cond.methodLink RX8 45 yX8_needRange, Cond.static yX8_needRange, Cond.code yX8_needRange cX8_needRange 3 none, Cond.classLink RX8 213 "java/lang/IllegalArgumentException", Cond.initialized "java/lang/IllegalArgumentException", Cond.methodLink RX8 130 yX0_fact, Cond.instanceMethod yX0_fact, Cond.selects RX0 yX0_fact yX0_fact, Cond.initialized RX0, Cond.code yX0_fact cX0_fact 5 (some .int), Cond.fieldLink RX0 9 "CacheDiary$Copies" "kind" "[I"]
def wsL_cache_r2 : List Cond := [Cond.fieldLink RX0 15 "CacheDiary$Copies" "value" "[I", Cond.fieldLink RX0 18 "CacheDiary$Copies" "slot" "[I", Cond.methodLink RX0 40 yX0_usedLater, Cond.instanceMethod yX0_usedLater, Cond.selects RX0 yX0_usedLater yX0_usedLater, Cond.code yX0_usedLater cX0_usedLater 7 (some .int), Cond.fieldLink RX0 21 "CacheDiary$Copies" "lastUse" "[I", Cond.methodLink RL 9 yX8_value, Cond.instanceMethod yX8_value, Cond.selects RX8 yX8_value yX8_value, Cond.code yX8_value cX8_value 2 (some .int), Cond.methodLink RX8 149 yX4_number, Cond.instanceMethod yX4_number, Cond.selects RX4 yX4_number yX4_number, Cond.initialized RX4, Cond.code yX4_number cX4_number 2 (some .int), Cond.fieldLink RX4 66 "CacheDiary$Machine" "caches" "I", Cond.fieldLink RX4 69 "CacheDiary$Machine" "slots" "I", Cond.fieldLink RX4 28 "CacheDiary$Machine" "diary" "LCacheDiary$Diary;", Cond.fieldLink RX4 232 "CacheDiary$Diary" "room" "I", Cond.fieldLink RX4 235 "CacheDiary$Diary" "pages" "I", Cond.fieldLink RX4 72 "CacheDiary$Machine" "time" "I", Cond.fieldLink RX4 75 "CacheDiary$Machine" "messages" "I", Cond.fieldLink RX4 78 "CacheDiary$Machine" "hits" "I"]
def wsL_cache_r3 : List Cond := [Cond.fieldLink RX4 81 "CacheDiary$Machine" "misses" "I", Cond.fieldLink RX4 84 "CacheDiary$Machine" "races" "I", Cond.fieldLink RX4 238 "CacheDiary$Diary" "timesAsked" "I", Cond.fieldLink RX4 241 "CacheDiary$Diary" "tornOut" "I", Cond.fieldLink RX4 87 "CacheDiary$Machine" "broughtBack" "I", Cond.fieldLink RX4 35 "CacheDiary$Machine" "requests" "LCacheDiary$Requests;", Cond.fieldLink RX4 42 "CacheDiary$Machine" "log" "LCacheDiary$Log;", Cond.fieldLink RX4 62 "CacheDiary$Log" "count" "I", Cond.methodLink RX4 110 yX7_count, Cond.instanceMethod yX7_count, Cond.selects RX7 yX7_count yX7_count, Cond.initialized RX7, Cond.code yX7_count cX7_count 3 (some .int), Cond.fieldLink RX7 9 "CacheDiary$Requests" "line" "[I", Cond.methodLink RL 23 yL_ones, Cond.static yL_ones, Cond.initialized RL, Cond.code yL_ones cL_ones 3 (some .int), Cond.methodLink RL 28 yX8_nextDropped, Cond.instanceMethod yX8_nextDropped, Cond.selects RX8 yX8_nextDropped yX8_nextDropped, Cond.code yX8_nextDropped cX8_nextDropped 2 (some .int), Cond.methodLink RX8 160 yX4_lineToDrop, Cond.instanceMethod yX4_lineToDrop]
def wsL_cache_r4 : List Cond := [Cond.selects RX4 yX4_lineToDrop yX4_lineToDrop, Cond.code yX4_lineToDrop cX4_lineToDrop 2 (some .int), Cond.fieldLink RX4 21 "CacheDiary$Machine" "copies" "LCacheDiary$Copies;", Cond.methodLink RX4 208 yX0_freeSlot, Cond.instanceMethod yX0_freeSlot, Cond.selects RX0 yX0_freeSlot yX0_freeSlot, Cond.code yX0_freeSlot cX0_freeSlot 5 (some .int), Cond.methodLink RX4 229 yX0_leastUsed, Cond.instanceMethod yX0_leastUsed, Cond.selects RX0 yX0_leastUsed yX0_leastUsed, Cond.code yX0_leastUsed cX0_leastUsed 6 (some .int)]
def wsL_cache : List Cond := .code yL_cache cL_cache 7 (some .boolean) :: ((wsL_cache_r1 ++ (wsL_cache_r2 ++ (wsL_cache_r3 ++ wsL_cache_r4))) ++ wsX80 ++ wsX40 ++ wsX00 ++ wsX10 ++ wsX30 ++ wsX70 ++ (vx_atS RX8 210 "java/lang/IndexOutOfBoundsException" ["java/lang/RuntimeException", "java/lang/Exception"]).filter goodWord ++ (vx_atS RX8 217 "java/lang/IllegalArgumentException" ["java/lang/RuntimeException", "java/lang/Exception"]).filter goodWord)
def wsL_sound_r1 : List Cond := [Cond.methodLink RL 31 yL_line, Cond.static yL_line, Cond.initialized RL, Cond.code yL_line cL_line 8 (some .boolean), Cond.methodLink RL 9 yX8_value, Cond.instanceMethod yX8_value, Cond.selects RX8 yX8_value yX8_value, Cond.initialized RX8, Cond.code yX8_value cX8_value 2 (some .int), Cond.fieldLink RX8 12 "CacheDiary" "machine" "LCacheDiary$Machine;", Cond.methodLink RX8 45 yX8_needRange, Cond.static yX8_needRange, Cond.code yX8_needRange cX8_needRange 3 none, Cond.classLink RX8 213 "java/lang/IllegalArgumentException", Cond.initialized "java/lang/IllegalArgumentException", Cond.methodLink RX8 149 yX4_number, Cond.instanceMethod yX4_number, Cond.selects RX4 yX4_number yX4_number, Cond.initialized RX4, Cond.code yX4_number cX4_number 2 (some .int), Cond.fieldLink RX4 66 "CacheDiary$Machine" "caches" "I", Cond.fieldLink RX4 69 "CacheDiary$Machine" "slots" "I", Cond.fieldLink RX4 28 "CacheDiary$Machine" "diary" "LCacheDiary$Diary;", Cond.fieldLink RX4 232 "CacheDiary$Diary" "room" "I"]
def wsL_sound_r2 : List Cond := [Cond.fieldLink RX4 235 "CacheDiary$Diary" "pages" "I", Cond.fieldLink RX4 72 "CacheDiary$Machine" "time" "I", Cond.fieldLink RX4 75 "CacheDiary$Machine" "messages" "I", Cond.fieldLink RX4 78 "CacheDiary$Machine" "hits" "I", Cond.fieldLink RX4 81 "CacheDiary$Machine" "misses" "I", Cond.fieldLink RX4 84 "CacheDiary$Machine" "races" "I", Cond.fieldLink RX4 238 "CacheDiary$Diary" "timesAsked" "I", Cond.fieldLink RX4 241 "CacheDiary$Diary" "tornOut" "I", Cond.fieldLink RX4 87 "CacheDiary$Machine" "broughtBack" "I", Cond.fieldLink RX4 35 "CacheDiary$Machine" "requests" "LCacheDiary$Requests;", Cond.fieldLink RX4 42 "CacheDiary$Machine" "log" "LCacheDiary$Log;", Cond.fieldLink RX4 62 "CacheDiary$Log" "count" "I", Cond.methodLink RX4 110 yX7_count, Cond.instanceMethod yX7_count, Cond.selects RX7 yX7_count yX7_count, Cond.initialized RX7, Cond.code yX7_count cX7_count 3 (some .int), Cond.fieldLink RX7 9 "CacheDiary$Requests" "line" "[I", Cond.methodLink RL 15 yX8_copy, Cond.instanceMethod yX8_copy, Cond.selects RX8 yX8_copy yX8_copy, Cond.code yX8_copy cX8_copy 4 (some .int), Cond.fieldLink RX8 55 "CacheDiary$Machine" "caches" "I", Cond.fieldLink RX8 98 "CacheDiary$Machine" "copies" "LCacheDiary$Copies;"]
def wsL_sound_r3 : List Cond := [Cond.methodLink RX8 58 yX8_needIndex, Cond.static yX8_needIndex, Cond.code yX8_needIndex cX8_needIndex 2 none, Cond.classLink RX8 206 "java/lang/IndexOutOfBoundsException", Cond.initialized "java/lang/IndexOutOfBoundsException", Cond.methodLink RX8 130 yX0_fact, Cond.instanceMethod yX0_fact, Cond.selects RX0 yX0_fact yX0_fact, Cond.initialized RX0, Cond.code yX0_fact cX0_fact 5 (some .int), Cond.fieldLink RX0 9 "CacheDiary$Copies" "kind" "[I", Cond.fieldLink RX0 15 "CacheDiary$Copies" "value" "[I", Cond.fieldLink RX0 18 "CacheDiary$Copies" "slot" "[I", Cond.methodLink RX0 40 yX0_usedLater, Cond.instanceMethod yX0_usedLater, Cond.selects RX0 yX0_usedLater yX0_usedLater, Cond.code yX0_usedLater cX0_usedLater 7 (some .int), Cond.fieldLink RX0 21 "CacheDiary$Copies" "lastUse" "[I", Cond.methodLink RL 19 yX8_line, Cond.instanceMethod yX8_line, Cond.selects RX8 yX8_line yX8_line, Cond.code yX8_line cX8_line 3 (some .int), Cond.methodLink RX8 134 yX4_lineFact, Cond.instanceMethod yX4_lineFact]
def wsL_sound_r4 : List Cond := [Cond.selects RX4 yX4_lineFact yX4_lineFact, Cond.code yX4_lineFact cX4_lineFact 3 (some .int), Cond.fieldLink RX4 9 "CacheDiary$Machine" "memory" "[I", Cond.fieldLink RX4 15 "CacheDiary$Machine" "lastWritten" "[I", Cond.fieldLink RX4 21 "CacheDiary$Machine" "copies" "LCacheDiary$Copies;", Cond.methodLink RX4 147 yX0_ownerOf, Cond.instanceMethod yX0_ownerOf, Cond.selects RX0 yX0_ownerOf yX0_ownerOf, Cond.code yX0_ownerOf cX0_ownerOf 3 (some .int), Cond.methodLink RX4 151 yX0_sharersOf, Cond.instanceMethod yX0_sharersOf, Cond.selects RX0 yX0_sharersOf yX0_sharersOf, Cond.code yX0_sharersOf cX0_sharersOf 4 (some .int), Cond.methodLink RX4 141 yX1_hasPage, Cond.instanceMethod yX1_hasPage, Cond.selects RX1 yX1_hasPage yX1_hasPage, Cond.initialized RX1, Cond.code yX1_hasPage cX1_hasPage 2 (some .boolean), Cond.fieldLink RX1 9 "CacheDiary$Diary" "lastUse" "[I", Cond.methodLink RX4 144 yX1_isMarked, Cond.instanceMethod yX1_isMarked, Cond.selects RX1 yX1_isMarked yX1_isMarked, Cond.code yX1_isMarked cX1_isMarked 2 (some .boolean), Cond.fieldLink RX1 25 "CacheDiary$Diary" "marks" "I"]
def wsL_sound_r5 : List Cond := [Cond.methodLink RL 34 yL_cache, Cond.static yL_cache, Cond.code yL_cache cL_cache 7 (some .boolean), Cond.methodLink RL 23 yL_ones, Cond.static yL_ones, Cond.code yL_ones cL_ones 3 (some .int), Cond.methodLink RL 28 yX8_nextDropped, Cond.instanceMethod yX8_nextDropped, Cond.selects RX8 yX8_nextDropped yX8_nextDropped, Cond.code yX8_nextDropped cX8_nextDropped 2 (some .int), Cond.methodLink RX8 160 yX4_lineToDrop, Cond.instanceMethod yX4_lineToDrop, Cond.selects RX4 yX4_lineToDrop yX4_lineToDrop, Cond.code yX4_lineToDrop cX4_lineToDrop 2 (some .int), Cond.methodLink RX4 208 yX0_freeSlot, Cond.instanceMethod yX0_freeSlot, Cond.selects RX0 yX0_freeSlot yX0_freeSlot, Cond.code yX0_freeSlot cX0_freeSlot 5 (some .int), Cond.methodLink RX4 229 yX0_leastUsed, Cond.instanceMethod yX0_leastUsed, Cond.selects RX0 yX0_leastUsed yX0_leastUsed, Cond.code yX0_leastUsed cX0_leastUsed 6 (some .int), Cond.methodLink RL 37 yX8_nextTorn, Cond.instanceMethod yX8_nextTorn]
def wsL_sound_r6 : List Cond := [Cond.selects RX8 yX8_nextTorn yX8_nextTorn, Cond.code yX8_nextTorn cX8_nextTorn 1 (some .int), Cond.fieldLink RX8 114 "CacheDiary$Machine" "diary" "LCacheDiary$Diary;", Cond.methodLink RX8 156 yX1_lineToTear, Cond.instanceMethod yX1_lineToTear, Cond.selects RX1 yX1_lineToTear yX1_lineToTear, Cond.code yX1_lineToTear cX1_lineToTear 4 (some .int), Cond.fieldLink RX1 31 "CacheDiary$Diary" "pages" "I", Cond.fieldLink RX1 28 "CacheDiary$Diary" "room" "I"]
def wsL_sound : List Cond := .code yL_sound cL_sound 4 (some .boolean) :: ((wsL_sound_r1 ++ (wsL_sound_r2 ++ (wsL_sound_r3 ++ (wsL_sound_r4 ++ (wsL_sound_r5 ++ wsL_sound_r6))))) ++ wsX80 ++ wsX40 ++ wsX10 ++ wsX30 ++ wsX70 ++ wsX00 ++ (vx_atS RX8 217 "java/lang/IllegalArgumentException" ["java/lang/RuntimeException", "java/lang/Exception"]).filter goodWord ++ (vx_atS RX8 210 "java/lang/IndexOutOfBoundsException" ["java/lang/RuntimeException", "java/lang/Exception"]).filter goodWord)
def wsL_refuses_r1 : List Cond := [Cond.methodLink RL 41 yX8_clearText, Cond.instanceMethod yX8_clearText, Cond.selects RX8 yX8_clearText yX8_clearText, Cond.initialized RX8, Cond.code yX8_clearText cX8_clearText 2 (some .int), Cond.fieldLink RX8 34 "CacheDiary" "textLength" "I", Cond.methodLink RL 44 yX8_append, Cond.instanceMethod yX8_append, Cond.selects RX8 yX8_append yX8_append, Cond.code yX8_append cX8_append 2 (some .int), Cond.fieldLink RX8 30 "CacheDiary" "text" "[B", Cond.methodLink RX8 45 yX8_needRange, Cond.static yX8_needRange, Cond.code yX8_needRange cX8_needRange 3 none, Cond.classLink RX8 213 "java/lang/IllegalArgumentException", Cond.initialized "java/lang/IllegalArgumentException", Cond.methodLink RX8 72 yX8_needState, Cond.static yX8_needState, Cond.code yX8_needState cX8_needState 1 none, Cond.classLink RX8 218 "java/lang/IllegalStateException", Cond.initialized "java/lang/IllegalStateException", Cond.methodLink RL 47 yX8_digest, Cond.instanceMethod yX8_digest, Cond.selects RX8 yX8_digest yX8_digest]
def wsL_refuses_r2 : List Cond := [Cond.code yX8_digest cX8_digest 5 (some .long), Cond.constantLong RX8 198 (113987), Cond.constantLong RX8 200 (31), Cond.fieldLink RX8 12 "CacheDiary" "machine" "LCacheDiary$Machine;", Cond.fieldLink RX8 55 "CacheDiary$Machine" "caches" "I", Cond.fieldLink RX8 62 "CacheDiary$Machine" "requests" "LCacheDiary$Requests;", Cond.fieldLink RX8 139 "CacheDiary$Machine" "log" "LCacheDiary$Log;", Cond.fieldLink RX8 143 "CacheDiary$Log" "count" "I", Cond.fieldLink RX8 114 "CacheDiary$Machine" "diary" "LCacheDiary$Diary;", Cond.fieldLink RX8 26 "CacheDiary" "history" "LCacheDiary$History;", Cond.fieldLink RX8 194 "CacheDiary$History" "count" "I", Cond.methodLink RX8 149 yX4_number, Cond.instanceMethod yX4_number, Cond.selects RX4 yX4_number yX4_number, Cond.initialized RX4, Cond.code yX4_number cX4_number 2 (some .int), Cond.fieldLink RX4 66 "CacheDiary$Machine" "caches" "I", Cond.fieldLink RX4 69 "CacheDiary$Machine" "slots" "I", Cond.fieldLink RX4 28 "CacheDiary$Machine" "diary" "LCacheDiary$Diary;", Cond.fieldLink RX4 232 "CacheDiary$Diary" "room" "I", Cond.fieldLink RX4 235 "CacheDiary$Diary" "pages" "I", Cond.fieldLink RX4 72 "CacheDiary$Machine" "time" "I", Cond.fieldLink RX4 75 "CacheDiary$Machine" "messages" "I", Cond.fieldLink RX4 78 "CacheDiary$Machine" "hits" "I"]
def wsL_refuses_r3 : List Cond := [Cond.fieldLink RX4 81 "CacheDiary$Machine" "misses" "I", Cond.fieldLink RX4 84 "CacheDiary$Machine" "races" "I", Cond.fieldLink RX4 238 "CacheDiary$Diary" "timesAsked" "I", Cond.fieldLink RX4 241 "CacheDiary$Diary" "tornOut" "I", Cond.fieldLink RX4 87 "CacheDiary$Machine" "broughtBack" "I", Cond.fieldLink RX4 35 "CacheDiary$Machine" "requests" "LCacheDiary$Requests;", Cond.fieldLink RX4 42 "CacheDiary$Machine" "log" "LCacheDiary$Log;", Cond.fieldLink RX4 62 "CacheDiary$Log" "count" "I", Cond.methodLink RX4 110 yX7_count, Cond.instanceMethod yX7_count, Cond.selects RX7 yX7_count yX7_count, Cond.initialized RX7, Cond.code yX7_count cX7_count 3 (some .int), Cond.fieldLink RX7 9 "CacheDiary$Requests" "line" "[I", Cond.methodLink RX8 202 yX8_hashLine, Cond.instanceMethod yX8_hashLine, Cond.selects RX8 yX8_hashLine yX8_hashLine, Cond.code yX8_hashLine cX8_hashLine 8 (some .long), Cond.fieldLink RX8 98 "CacheDiary$Machine" "copies" "LCacheDiary$Copies;", Cond.methodLink RX8 134 yX4_lineFact, Cond.instanceMethod yX4_lineFact, Cond.selects RX4 yX4_lineFact yX4_lineFact, Cond.code yX4_lineFact cX4_lineFact 3 (some .int), Cond.fieldLink RX4 9 "CacheDiary$Machine" "memory" "[I"]
def wsL_refuses_r4 : List Cond := [Cond.fieldLink RX4 15 "CacheDiary$Machine" "lastWritten" "[I", Cond.fieldLink RX4 21 "CacheDiary$Machine" "copies" "LCacheDiary$Copies;", Cond.methodLink RX4 147 yX0_ownerOf, Cond.instanceMethod yX0_ownerOf, Cond.selects RX0 yX0_ownerOf yX0_ownerOf, Cond.initialized RX0, Cond.code yX0_ownerOf cX0_ownerOf 3 (some .int), Cond.fieldLink RX0 9 "CacheDiary$Copies" "kind" "[I", Cond.methodLink RX4 151 yX0_sharersOf, Cond.instanceMethod yX0_sharersOf, Cond.selects RX0 yX0_sharersOf yX0_sharersOf, Cond.code yX0_sharersOf cX0_sharersOf 4 (some .int), Cond.methodLink RX4 141 yX1_hasPage, Cond.instanceMethod yX1_hasPage, Cond.selects RX1 yX1_hasPage yX1_hasPage, Cond.initialized RX1, Cond.code yX1_hasPage cX1_hasPage 2 (some .boolean), Cond.fieldLink RX1 9 "CacheDiary$Diary" "lastUse" "[I", Cond.methodLink RX4 144 yX1_isMarked, Cond.instanceMethod yX1_isMarked, Cond.selects RX1 yX1_isMarked yX1_isMarked, Cond.code yX1_isMarked cX1_isMarked 2 (some .boolean), Cond.fieldLink RX1 25 "CacheDiary$Diary" "marks" "I", Cond.methodLink RX8 130 yX0_fact]
def wsL_refuses_r5 : List Cond := [Cond.instanceMethod yX0_fact, Cond.selects RX0 yX0_fact yX0_fact, Cond.code yX0_fact cX0_fact 5 (some .int), Cond.fieldLink RX0 15 "CacheDiary$Copies" "value" "[I", Cond.fieldLink RX0 18 "CacheDiary$Copies" "slot" "[I", Cond.methodLink RX0 40 yX0_usedLater, Cond.instanceMethod yX0_usedLater, Cond.selects RX0 yX0_usedLater yX0_usedLater, Cond.code yX0_usedLater cX0_usedLater 7 (some .int), Cond.fieldLink RX0 21 "CacheDiary$Copies" "lastUse" "[I", Cond.methodLink RX8 137 yX7_fact, Cond.instanceMethod yX7_fact, Cond.selects RX7 yX7_fact yX7_fact, Cond.code yX7_fact cX7_fact 3 (some .int), Cond.fieldLink RX7 15 "CacheDiary$Requests" "value" "[I", Cond.fieldLink RX7 18 "CacheDiary$Requests" "putOff" "[I", Cond.methodLink RX8 148 yX3_fact, Cond.instanceMethod yX3_fact, Cond.selects RX3 yX3_fact yX3_fact, Cond.initialized RX3, Cond.code yX3_fact cX3_fact 3 (some .int), Cond.fieldLink RX3 9 "CacheDiary$Log" "facts" "[I", Cond.methodLink RX8 156 yX1_lineToTear, Cond.instanceMethod yX1_lineToTear]
def wsL_refuses_r6 : List Cond := [Cond.selects RX1 yX1_lineToTear yX1_lineToTear, Cond.code yX1_lineToTear cX1_lineToTear 4 (some .int), Cond.fieldLink RX1 31 "CacheDiary$Diary" "pages" "I", Cond.fieldLink RX1 28 "CacheDiary$Diary" "room" "I", Cond.methodLink RL 51 yX8_carryOut, Cond.instanceMethod yX8_carryOut, Cond.selects RX8 yX8_carryOut yX8_carryOut, Cond.code yX8_carryOut cX8_carryOut 3 (some .int), Cond.fieldLink RX8 41 "CacheDiary" "orders" "LCacheDiary$OrderReader;", Cond.fieldLink RX8 181 "CacheDiary$OrderReader" "count" "I", Cond.fieldLink RX8 188 "CacheDiary$OrderReader" "number" "[I", Cond.fieldLink RX8 190 "CacheDiary$OrderReader" "cache" "[I", Cond.fieldLink RX8 193 "CacheDiary$OrderReader" "line" "[I", Cond.methodLink RX8 177 yX5_readAll, Cond.instanceMethod yX5_readAll, Cond.selects RX5 yX5_readAll yX5_readAll, Cond.initialized RX5, Cond.code yX5_readAll cX5_readAll 6 (some .int), Cond.fieldLink RX5 30 "CacheDiary$OrderReader" "count" "I", Cond.fieldLink RX5 21 "CacheDiary$Place" "KIND" "LCacheDiary$Place;", Cond.fieldLink RX5 27 "CacheDiary$OrderReader" "place" "LCacheDiary$Place;", Cond.methodLink RX5 34 yX5_take, Cond.instanceMethod yX5_take, Cond.selects RX5 yX5_take yX5_take]
def wsL_refuses_r7 : List Cond := [Cond.code yX5_take cX5_take 3 (some .int), Cond.fieldLink RX5 42 "CacheDiary$Place" "CACHE" "LCacheDiary$Place;", Cond.fieldLink RX5 48 "CacheDiary$Place" "COLON" "LCacheDiary$Place;", Cond.methodLink RX5 38 yX5_takeKind, Cond.instanceMethod yX5_takeKind, Cond.selects RX5 yX5_takeKind yX5_takeKind, Cond.code yX5_takeKind cX5_takeKind 2 (some .boolean), Cond.fieldLink RX5 57 "CacheDiary$OrderReader" "readCache" "I", Cond.fieldLink RX5 60 "CacheDiary$Place" "TICKS" "LCacheDiary$Place;", Cond.fieldLink RX5 67 "CacheDiary$OrderReader" "write" "Z", Cond.methodLink RX5 63 yX5_startNumber, Cond.instanceMethod yX5_startNumber, Cond.selects RX5 yX5_startNumber yX5_startNumber, Cond.code yX5_startNumber cX5_startNumber 2 none, Cond.fieldLink RX5 74 "CacheDiary$OrderReader" "readNumber" "I", Cond.fieldLink RX5 77 "CacheDiary$OrderReader" "digits" "I", Cond.methodLink RX5 45 yX5_takeCache, Cond.instanceMethod yX5_takeCache, Cond.selects RX5 yX5_takeCache yX5_takeCache, Cond.code yX5_takeCache cX5_takeCache 2 (some .boolean), Cond.methodLink RX5 51 yX5_takeColon, Cond.instanceMethod yX5_takeColon, Cond.selects RX5 yX5_takeColon yX5_takeColon, Cond.code yX5_takeColon cX5_takeColon 2 (some .boolean)]
def wsL_refuses_r8 : List Cond := [Cond.fieldLink RX5 71 "CacheDiary$Place" "LINE" "LCacheDiary$Place;", Cond.methodLink RX5 54 yX5_takeOfNumber, Cond.instanceMethod yX5_takeOfNumber, Cond.selects RX5 yX5_takeOfNumber yX5_takeOfNumber, Cond.code yX5_takeOfNumber cX5_takeOfNumber 4 (some .int), Cond.fieldLink RX5 83 "CacheDiary$Place" "lowest" "I", Cond.fieldLink RX5 86 "CacheDiary$Place" "highest" "I", Cond.fieldLink RX5 89 "CacheDiary$OrderReader" "firstDigit" "I", Cond.fieldLink RX5 92 "CacheDiary$OrderReader" "readLine" "I", Cond.fieldLink RX5 95 "CacheDiary$Place" "VALUE" "LCacheDiary$Place;", Cond.methodLink RX5 80 yX5_takeDigit, Cond.instanceMethod yX5_takeDigit, Cond.selects RX5 yX5_takeDigit yX5_takeDigit, Cond.code yX5_takeDigit cX5_takeDigit 3 (some .int), Cond.fieldLink RX5 101 "CacheDiary$Place" "maxDigits" "I", Cond.methodLink RX5 98 yX5_keepOrder, Cond.instanceMethod yX5_keepOrder, Cond.selects RX5 yX5_keepOrder yX5_keepOrder, Cond.code yX5_keepOrder cX5_keepOrder 1 none, Cond.fieldLink RX5 9 "CacheDiary$OrderReader" "cache" "[I", Cond.fieldLink RX5 15 "CacheDiary$OrderReader" "line" "[I", Cond.fieldLink RX5 18 "CacheDiary$OrderReader" "number" "[I", Cond.methodLink RX8 48 yX2_save, Cond.instanceMethod yX2_save]
def wsL_refuses_r9 : List Cond := [Cond.selects RX2 yX2_save yX2_save, Cond.initialized RX2, Cond.code yX2_save cX2_save 2 none, Cond.fieldLink RX2 18 "CacheDiary$History" "count" "I", Cond.fieldLink RX2 11 "CacheDiary$History" "saved" "[LCacheDiary$Machine;", Cond.methodLink RX2 22 yX2_dropOldest, Cond.instanceMethod yX2_dropOldest, Cond.selects RX2 yX2_dropOldest yX2_dropOldest, Cond.code yX2_dropOldest cX2_dropOldest 3 none, Cond.methodLink RX2 25 yX4_takeOver, Cond.instanceMethod yX4_takeOver, Cond.selects RX4 yX4_takeOver yX4_takeOver, Cond.code yX4_takeOver cX4_takeOver 2 none, Cond.methodLink RX4 90 arraycopyName, Cond.native arraycopyName, Cond.static arraycopyName, Cond.initialized "java/lang/System", Cond.methodLink RX4 96 yX0_takeOver, Cond.instanceMethod yX0_takeOver, Cond.selects RX0 yX0_takeOver yX0_takeOver, Cond.code yX0_takeOver cX0_takeOver 2 none, Cond.methodLink RX0 34 arraycopyName, Cond.fieldLink RX0 30 "CacheDiary$Copies" "uses" "I", Cond.methodLink RX4 100 yX1_takeOver]
def wsL_refuses_r10 : List Cond := [Cond.instanceMethod yX1_takeOver, Cond.selects RX1 yX1_takeOver yX1_takeOver, Cond.code yX1_takeOver cX1_takeOver 2 none, Cond.methodLink RX1 40 arraycopyName, Cond.fieldLink RX1 21 "CacheDiary$Diary" "uses" "I", Cond.fieldLink RX1 34 "CacheDiary$Diary" "timesAsked" "I", Cond.fieldLink RX1 37 "CacheDiary$Diary" "tornOut" "I", Cond.methodLink RX4 103 yX7_takeOver, Cond.instanceMethod yX7_takeOver, Cond.selects RX7 yX7_takeOver yX7_takeOver, Cond.code yX7_takeOver cX7_takeOver 2 none, Cond.methodLink RX7 27 arraycopyName, Cond.methodLink RX4 106 yX3_takeOver, Cond.instanceMethod yX3_takeOver, Cond.selects RX3 yX3_takeOver yX3_takeOver, Cond.code yX3_takeOver cX3_takeOver 2 none, Cond.methodLink RX3 15 arraycopyName, Cond.fieldLink RX3 21 "CacheDiary$Log" "count" "I", Cond.methodLink RX8 182 yX8_isPossible, Cond.instanceMethod yX8_isPossible, Cond.selects RX8 yX8_isPossible yX8_isPossible, Cond.code yX8_isPossible cX8_isPossible 3 (some .boolean), Cond.methodLink RX8 185 yX5_isTicks, Cond.instanceMethod yX5_isTicks]
def wsL_refuses_r11 : List Cond := [Cond.selects RX5 yX5_isTicks yX5_isTicks, Cond.code yX5_isTicks cX5_isTicks 2 (some .boolean), Cond.methodLink RX8 91 yX4_hasTimeFor, Cond.instanceMethod yX4_hasTimeFor, Cond.selects RX4 yX4_hasTimeFor yX4_hasTimeFor, Cond.code yX4_hasTimeFor cX4_hasTimeFor 2 (some .boolean), Cond.constant RX4 109 (100000), Cond.methodLink RX8 66 yX7_isPending, Cond.instanceMethod yX7_isPending, Cond.selects RX7 yX7_isPending yX7_isPending, Cond.code yX7_isPending cX7_isPending 2 (some .boolean), Cond.methodLink RX8 94 yX4_letPass, Cond.instanceMethod yX4_letPass, Cond.selects RX4 yX4_letPass yX4_letPass, Cond.code yX4_letPass cX4_letPass 5 (some .int), Cond.methodLink RX4 113 yX4_tick, Cond.instanceMethod yX4_tick, Cond.selects RX4 yX4_tick yX4_tick, Cond.code yX4_tick cX4_tick 8 (some .int), Cond.fieldLink RX4 120 "CacheDiary$Requests" "line" "[I", Cond.fieldLink RX4 130 "CacheDiary$Requests" "putOff" "[I", Cond.methodLink RX4 116 yX7_isPending, Cond.methodLink RX4 123 yX7_isWrite, Cond.instanceMethod yX7_isWrite]
def wsL_refuses_r12 : List Cond := [Cond.selects RX7 yX7_isWrite yX7_isWrite, Cond.code yX7_isWrite cX7_isWrite 2 (some .boolean), Cond.methodLink RX4 126 yX4_isHit, Cond.instanceMethod yX4_isHit, Cond.selects RX4 yX4_isHit yX4_isHit, Cond.code yX4_isHit cX4_isHit 5 (some .boolean), Cond.methodLink RX4 137 yX0_kindOf, Cond.instanceMethod yX0_kindOf, Cond.selects RX0 yX0_kindOf yX0_kindOf, Cond.code yX0_kindOf cX0_kindOf 3 (some .int), Cond.methodLink RX4 133 yX4_serve, Cond.instanceMethod yX4_serve, Cond.selects RX4 yX4_serve yX4_serve, Cond.code yX4_serve cX4_serve 6 none, Cond.fieldLink RX4 169 "CacheDiary$Requests" "value" "[I", Cond.methodLink RX4 162 yX4_costOf, Cond.instanceMethod yX4_costOf, Cond.selects RX4 yX4_costOf yX4_costOf, Cond.code yX4_costOf cX4_costOf 6 (some .int), Cond.methodLink RX4 154 yJ6_bitCount_0f7a4, Cond.static yJ6_bitCount_0f7a4, Cond.initialized RJ6, Cond.code yJ6_bitCount_0f7a4 cJ6_bitCount_0f7a4 1 (some .int), Cond.constant RJ6 265 (1431655765)]
def wsL_refuses_r13 : List Cond := [Cond.constant RJ6 266 (858993459), Cond.constant RJ6 267 (252645135), Cond.methodLink RX4 159 yX4_lineToDrop, Cond.instanceMethod yX4_lineToDrop, Cond.selects RX4 yX4_lineToDrop yX4_lineToDrop, Cond.code yX4_lineToDrop cX4_lineToDrop 2 (some .int), Cond.methodLink RX4 208 yX0_freeSlot, Cond.instanceMethod yX0_freeSlot, Cond.selects RX0 yX0_freeSlot yX0_freeSlot, Cond.code yX0_freeSlot cX0_freeSlot 5 (some .int), Cond.methodLink RX4 229 yX0_leastUsed, Cond.instanceMethod yX0_leastUsed, Cond.selects RX0 yX0_leastUsed yX0_leastUsed, Cond.code yX0_leastUsed cX0_leastUsed 6 (some .int), Cond.methodLink RX4 166 yX4_fetch, Cond.instanceMethod yX4_fetch, Cond.selects RX4 yX4_fetch yX4_fetch, Cond.code yX4_fetch cX4_fetch 6 none, Cond.methodLink RX4 190 yX4_makeRoomInDiary, Cond.instanceMethod yX4_makeRoomInDiary, Cond.selects RX4 yX4_makeRoomInDiary yX4_makeRoomInDiary, Cond.code yX4_makeRoomInDiary cX4_makeRoomInDiary 2 none, Cond.methodLink RX4 216 yX1_lineToTear, Cond.methodLink RX4 219 yX0_countOf]
def wsL_refuses_r14 : List Cond := [Cond.instanceMethod yX0_countOf, Cond.selects RX0 yX0_countOf yX0_countOf, Cond.code yX0_countOf cX0_countOf 4 (some .int), Cond.methodLink RX4 222 yX1_tearOut, Cond.instanceMethod yX1_tearOut, Cond.selects RX1 yX1_tearOut yX1_tearOut, Cond.code yX1_tearOut cX1_tearOut 3 none, Cond.methodLink RX4 193 yX1_makePage, Cond.instanceMethod yX1_makePage, Cond.selects RX1 yX1_makePage yX1_makePage, Cond.code yX1_makePage cX1_makePage 2 none, Cond.methodLink RX1 46 yX1_isMarked, Cond.methodLink RX1 50 yX1_use, Cond.instanceMethod yX1_use, Cond.selects RX1 yX1_use yX1_use, Cond.code yX1_use cX1_use 2 none, Cond.methodLink RX4 196 yX4_bringBack, Cond.instanceMethod yX4_bringBack, Cond.selects RX4 yX4_bringBack yX4_bringBack, Cond.code yX4_bringBack cX4_bringBack 3 none, Cond.methodLink RX4 180 yX0_valueOf, Cond.instanceMethod yX0_valueOf, Cond.selects RX0 yX0_valueOf yX0_valueOf, Cond.code yX0_valueOf cX0_valueOf 3 (some .int)]
def wsL_refuses_r15 : List Cond := [Cond.methodLink RX4 199 yX0_share, Cond.instanceMethod yX0_share, Cond.selects RX0 yX0_share yX0_share, Cond.code yX0_share cX0_share 3 none, Cond.methodLink RX4 202 yX0_removeOthers, Cond.instanceMethod yX0_removeOthers, Cond.selects RX0 yX0_removeOthers yX0_removeOthers, Cond.code yX0_removeOthers cX0_removeOthers 4 none, Cond.methodLink RX4 205 yX4_throwAway, Cond.instanceMethod yX4_throwAway, Cond.selects RX4 yX4_throwAway yX4_throwAway, Cond.code yX4_throwAway cX4_throwAway 3 none, Cond.methodLink RX4 226 yX0_remove, Cond.instanceMethod yX0_remove, Cond.selects RX0 yX0_remove yX0_remove, Cond.code yX0_remove cX0_remove 3 none, Cond.methodLink RX4 211 yX0_add, Cond.instanceMethod yX0_add, Cond.selects RX0 yX0_add yX0_add, Cond.code yX0_add cX0_add 6 none, Cond.methodLink RX4 214 yX1_use, Cond.methodLink RX4 172 yX0_own, Cond.instanceMethod yX0_own, Cond.selects RX0 yX0_own yX0_own]
def wsL_refuses_r16 : List Cond := [Cond.code yX0_own cX0_own 4 none, Cond.methodLink RX4 176 yX0_use, Cond.instanceMethod yX0_use, Cond.selects RX0 yX0_use yX0_use, Cond.code yX0_use cX0_use 3 none, Cond.methodLink RX4 183 yX3_add, Cond.instanceMethod yX3_add, Cond.selects RX3 yX3_add yX3_add, Cond.code yX3_add cX3_add 8 none, Cond.methodLink RX4 187 yX7_forget, Cond.instanceMethod yX7_forget, Cond.selects RX7 yX7_forget yX7_forget, Cond.code yX7_forget cX7_forget 2 none, Cond.methodLink RX8 76 yX7_ask, Cond.instanceMethod yX7_ask, Cond.selects RX7 yX7_ask yX7_ask, Cond.code yX7_ask cX7_ask 4 none]
def wsL_refuses : List Cond := .code yL_refuses cL_refuses 6 (some .boolean) :: ((wsL_refuses_r1 ++ (wsL_refuses_r2 ++ (wsL_refuses_r3 ++ (wsL_refuses_r4 ++ (wsL_refuses_r5 ++ (wsL_refuses_r6 ++ (wsL_refuses_r7 ++ (wsL_refuses_r8 ++ (wsL_refuses_r9 ++ (wsL_refuses_r10 ++ (wsL_refuses_r11 ++ (wsL_refuses_r12 ++ (wsL_refuses_r13 ++ (wsL_refuses_r14 ++ (wsL_refuses_r15 ++ wsL_refuses_r16))))))))))))))) ++ wsX80 ++ wsX40 ++ wsX30 ++ wsX20 ++ wsX10 ++ wsX70 ++ wsX00 ++ wsX50 ++ (vx_atS RX8 217 "java/lang/IllegalArgumentException" ["java/lang/RuntimeException", "java/lang/Exception"]).filter goodWord ++ (vx_atS RX8 222 "java/lang/IllegalStateException" ["java/lang/RuntimeException", "java/lang/Exception"]).filter goodWord)
def wsL_acts_r1 : List Cond := [Cond.methodLink RL 9 yX8_value, Cond.instanceMethod yX8_value, Cond.selects RX8 yX8_value yX8_value, Cond.initialized RX8, Cond.code yX8_value cX8_value 2 (some .int), Cond.fieldLink RX8 12 "CacheDiary" "machine" "LCacheDiary$Machine;", Cond.methodLink RX8 45 yX8_needRange, Cond.static yX8_needRange, Cond.code yX8_needRange cX8_needRange 3 none, Cond.classLink RX8 213 "java/lang/IllegalArgumentException", Cond.initialized "java/lang/IllegalArgumentException", Cond.methodLink RX8 149 yX4_number, Cond.instanceMethod yX4_number, Cond.selects RX4 yX4_number yX4_number, Cond.initialized RX4, Cond.code yX4_number cX4_number 2 (some .int), Cond.fieldLink RX4 66 "CacheDiary$Machine" "caches" "I", Cond.fieldLink RX4 69 "CacheDiary$Machine" "slots" "I", Cond.fieldLink RX4 28 "CacheDiary$Machine" "diary" "LCacheDiary$Diary;", Cond.fieldLink RX4 232 "CacheDiary$Diary" "room" "I", Cond.fieldLink RX4 235 "CacheDiary$Diary" "pages" "I", Cond.fieldLink RX4 72 "CacheDiary$Machine" "time" "I", Cond.fieldLink RX4 75 "CacheDiary$Machine" "messages" "I", Cond.fieldLink RX4 78 "CacheDiary$Machine" "hits" "I"]
def wsL_acts_r2 : List Cond := [Cond.fieldLink RX4 81 "CacheDiary$Machine" "misses" "I", Cond.fieldLink RX4 84 "CacheDiary$Machine" "races" "I", Cond.fieldLink RX4 238 "CacheDiary$Diary" "timesAsked" "I", Cond.fieldLink RX4 241 "CacheDiary$Diary" "tornOut" "I", Cond.fieldLink RX4 87 "CacheDiary$Machine" "broughtBack" "I", Cond.fieldLink RX4 35 "CacheDiary$Machine" "requests" "LCacheDiary$Requests;", Cond.fieldLink RX4 42 "CacheDiary$Machine" "log" "LCacheDiary$Log;", Cond.fieldLink RX4 62 "CacheDiary$Log" "count" "I", Cond.methodLink RX4 110 yX7_count, Cond.instanceMethod yX7_count, Cond.selects RX7 yX7_count yX7_count, Cond.initialized RX7, Cond.code yX7_count cX7_count 3 (some .int), Cond.fieldLink RX7 9 "CacheDiary$Requests" "line" "[I", Cond.methodLink RL 54 yX8_pending, Cond.instanceMethod yX8_pending, Cond.selects RX8 yX8_pending yX8_pending, Cond.code yX8_pending cX8_pending 3 (some .int), Cond.fieldLink RX8 55 "CacheDiary$Machine" "caches" "I", Cond.fieldLink RX8 62 "CacheDiary$Machine" "requests" "LCacheDiary$Requests;", Cond.methodLink RX8 58 yX8_needIndex, Cond.static yX8_needIndex, Cond.code yX8_needIndex cX8_needIndex 2 none, Cond.classLink RX8 206 "java/lang/IndexOutOfBoundsException"]
def wsL_acts_r3 : List Cond := [Cond.initialized "java/lang/IndexOutOfBoundsException", Cond.methodLink RX8 137 yX7_fact, Cond.instanceMethod yX7_fact, Cond.selects RX7 yX7_fact yX7_fact, Cond.code yX7_fact cX7_fact 3 (some .int), Cond.fieldLink RX7 15 "CacheDiary$Requests" "value" "[I", Cond.fieldLink RX7 18 "CacheDiary$Requests" "putOff" "[I", Cond.methodLink RL 57 yX8_read, Cond.instanceMethod yX8_read, Cond.selects RX8 yX8_read yX8_read, Cond.code yX8_read cX8_read 3 (some .int), Cond.fieldLink RX8 26 "CacheDiary" "history" "LCacheDiary$History;", Cond.methodLink RX8 66 yX7_isPending, Cond.instanceMethod yX7_isPending, Cond.selects RX7 yX7_isPending yX7_isPending, Cond.code yX7_isPending cX7_isPending 2 (some .boolean), Cond.methodLink RX8 72 yX8_needState, Cond.static yX8_needState, Cond.code yX8_needState cX8_needState 1 none, Cond.classLink RX8 218 "java/lang/IllegalStateException", Cond.initialized "java/lang/IllegalStateException", Cond.methodLink RX8 48 yX2_save, Cond.instanceMethod yX2_save, Cond.selects RX2 yX2_save yX2_save]
def wsL_acts_r4 : List Cond := [Cond.initialized RX2, Cond.code yX2_save cX2_save 2 none, Cond.fieldLink RX2 18 "CacheDiary$History" "count" "I", Cond.fieldLink RX2 11 "CacheDiary$History" "saved" "[LCacheDiary$Machine;", Cond.methodLink RX2 22 yX2_dropOldest, Cond.instanceMethod yX2_dropOldest, Cond.selects RX2 yX2_dropOldest yX2_dropOldest, Cond.code yX2_dropOldest cX2_dropOldest 3 none, Cond.methodLink RX2 25 yX4_takeOver, Cond.instanceMethod yX4_takeOver, Cond.selects RX4 yX4_takeOver yX4_takeOver, Cond.code yX4_takeOver cX4_takeOver 2 none, Cond.fieldLink RX4 9 "CacheDiary$Machine" "memory" "[I", Cond.methodLink RX4 90 arraycopyName, Cond.native arraycopyName, Cond.static arraycopyName, Cond.initialized "java/lang/System", Cond.fieldLink RX4 15 "CacheDiary$Machine" "lastWritten" "[I", Cond.fieldLink RX4 21 "CacheDiary$Machine" "copies" "LCacheDiary$Copies;", Cond.methodLink RX4 96 yX0_takeOver, Cond.instanceMethod yX0_takeOver, Cond.selects RX0 yX0_takeOver yX0_takeOver, Cond.initialized RX0, Cond.code yX0_takeOver cX0_takeOver 2 none]
def wsL_acts_r5 : List Cond := [Cond.fieldLink RX0 9 "CacheDiary$Copies" "kind" "[I", Cond.methodLink RX0 34 arraycopyName, Cond.fieldLink RX0 15 "CacheDiary$Copies" "value" "[I", Cond.fieldLink RX0 18 "CacheDiary$Copies" "slot" "[I", Cond.fieldLink RX0 21 "CacheDiary$Copies" "lastUse" "[I", Cond.fieldLink RX0 30 "CacheDiary$Copies" "uses" "I", Cond.methodLink RX4 100 yX1_takeOver, Cond.instanceMethod yX1_takeOver, Cond.selects RX1 yX1_takeOver yX1_takeOver, Cond.initialized RX1, Cond.code yX1_takeOver cX1_takeOver 2 none, Cond.fieldLink RX1 9 "CacheDiary$Diary" "lastUse" "[I", Cond.methodLink RX1 40 arraycopyName, Cond.fieldLink RX1 21 "CacheDiary$Diary" "uses" "I", Cond.fieldLink RX1 25 "CacheDiary$Diary" "marks" "I", Cond.fieldLink RX1 28 "CacheDiary$Diary" "room" "I", Cond.fieldLink RX1 31 "CacheDiary$Diary" "pages" "I", Cond.fieldLink RX1 34 "CacheDiary$Diary" "timesAsked" "I", Cond.fieldLink RX1 37 "CacheDiary$Diary" "tornOut" "I", Cond.methodLink RX4 103 yX7_takeOver, Cond.instanceMethod yX7_takeOver, Cond.selects RX7 yX7_takeOver yX7_takeOver, Cond.code yX7_takeOver cX7_takeOver 2 none, Cond.methodLink RX7 27 arraycopyName]
def wsL_acts_r6 : List Cond := [Cond.methodLink RX4 106 yX3_takeOver, Cond.instanceMethod yX3_takeOver, Cond.selects RX3 yX3_takeOver yX3_takeOver, Cond.initialized RX3, Cond.code yX3_takeOver cX3_takeOver 2 none, Cond.fieldLink RX3 9 "CacheDiary$Log" "facts" "[I", Cond.methodLink RX3 15 arraycopyName, Cond.fieldLink RX3 21 "CacheDiary$Log" "count" "I", Cond.methodLink RX8 76 yX7_ask, Cond.instanceMethod yX7_ask, Cond.selects RX7 yX7_ask yX7_ask, Cond.code yX7_ask cX7_ask 4 none, Cond.methodLink RX8 79 yX4_isHit, Cond.instanceMethod yX4_isHit, Cond.selects RX4 yX4_isHit yX4_isHit, Cond.code yX4_isHit cX4_isHit 5 (some .boolean), Cond.methodLink RX4 137 yX0_kindOf, Cond.instanceMethod yX0_kindOf, Cond.selects RX0 yX0_kindOf yX0_kindOf, Cond.code yX0_kindOf cX0_kindOf 3 (some .int), Cond.methodLink RL 15 yX8_copy, Cond.instanceMethod yX8_copy, Cond.selects RX8 yX8_copy yX8_copy, Cond.code yX8_copy cX8_copy 4 (some .int)]
def wsL_acts_r7 : List Cond := [Cond.fieldLink RX8 98 "CacheDiary$Machine" "copies" "LCacheDiary$Copies;", Cond.methodLink RX8 130 yX0_fact, Cond.instanceMethod yX0_fact, Cond.selects RX0 yX0_fact yX0_fact, Cond.code yX0_fact cX0_fact 5 (some .int), Cond.methodLink RX0 40 yX0_usedLater, Cond.instanceMethod yX0_usedLater, Cond.selects RX0 yX0_usedLater yX0_usedLater, Cond.code yX0_usedLater cX0_usedLater 7 (some .int), Cond.methodLink RL 60 yX8_write, Cond.instanceMethod yX8_write, Cond.selects RX8 yX8_write yX8_write, Cond.code yX8_write cX8_write 4 (some .int), Cond.methodLink RL 63 yX8_drop, Cond.instanceMethod yX8_drop, Cond.selects RX8 yX8_drop yX8_drop, Cond.code yX8_drop cX8_drop 4 (some .int), Cond.fieldLink RX8 111 "CacheDiary$Machine" "messages" "I", Cond.methodLink RX8 102 yX0_kindOf, Cond.methodLink RX8 108 yX4_throwAway, Cond.instanceMethod yX4_throwAway, Cond.selects RX4 yX4_throwAway yX4_throwAway, Cond.code yX4_throwAway cX4_throwAway 3 none, Cond.methodLink RX4 196 yX4_bringBack]
def wsL_acts_r8 : List Cond := [Cond.instanceMethod yX4_bringBack, Cond.selects RX4 yX4_bringBack yX4_bringBack, Cond.code yX4_bringBack cX4_bringBack 3 none, Cond.methodLink RX4 180 yX0_valueOf, Cond.instanceMethod yX0_valueOf, Cond.selects RX0 yX0_valueOf yX0_valueOf, Cond.code yX0_valueOf cX0_valueOf 3 (some .int), Cond.methodLink RX4 226 yX0_remove, Cond.instanceMethod yX0_remove, Cond.selects RX0 yX0_remove yX0_remove, Cond.code yX0_remove cX0_remove 3 none, Cond.methodLink RL 19 yX8_line, Cond.instanceMethod yX8_line, Cond.selects RX8 yX8_line yX8_line, Cond.code yX8_line cX8_line 3 (some .int), Cond.methodLink RX8 134 yX4_lineFact, Cond.instanceMethod yX4_lineFact, Cond.selects RX4 yX4_lineFact yX4_lineFact, Cond.code yX4_lineFact cX4_lineFact 3 (some .int), Cond.methodLink RX4 147 yX0_ownerOf, Cond.instanceMethod yX0_ownerOf, Cond.selects RX0 yX0_ownerOf yX0_ownerOf, Cond.code yX0_ownerOf cX0_ownerOf 3 (some .int), Cond.methodLink RX4 151 yX0_sharersOf]
def wsL_acts_r9 : List Cond := [Cond.instanceMethod yX0_sharersOf, Cond.selects RX0 yX0_sharersOf yX0_sharersOf, Cond.code yX0_sharersOf cX0_sharersOf 4 (some .int), Cond.methodLink RX4 141 yX1_hasPage, Cond.instanceMethod yX1_hasPage, Cond.selects RX1 yX1_hasPage yX1_hasPage, Cond.code yX1_hasPage cX1_hasPage 2 (some .boolean), Cond.methodLink RX4 144 yX1_isMarked, Cond.instanceMethod yX1_isMarked, Cond.selects RX1 yX1_isMarked yX1_isMarked, Cond.code yX1_isMarked cX1_isMarked 2 (some .boolean), Cond.methodLink RL 23 yL_ones, Cond.static yL_ones, Cond.initialized RL, Cond.code yL_ones cL_ones 3 (some .int), Cond.methodLink RL 66 yX8_tear, Cond.instanceMethod yX8_tear, Cond.selects RX8 yX8_tear yX8_tear, Cond.code yX8_tear cX8_tear 3 (some .int), Cond.fieldLink RX8 114 "CacheDiary$Machine" "diary" "LCacheDiary$Diary;", Cond.methodLink RX8 118 yX1_hasPage, Cond.methodLink RX8 123 yX0_countOf, Cond.instanceMethod yX0_countOf, Cond.selects RX0 yX0_countOf yX0_countOf]
def wsL_acts_r10 : List Cond := [Cond.code yX0_countOf cX0_countOf 4 (some .int), Cond.methodLink RX8 126 yX1_tearOut, Cond.instanceMethod yX1_tearOut, Cond.selects RX1 yX1_tearOut yX1_tearOut, Cond.code yX1_tearOut cX1_tearOut 3 none, Cond.methodLink RL 69 yX8_pass, Cond.instanceMethod yX8_pass, Cond.selects RX8 yX8_pass yX8_pass, Cond.code yX8_pass cX8_pass 2 (some .int), Cond.methodLink RX8 91 yX4_hasTimeFor, Cond.instanceMethod yX4_hasTimeFor, Cond.selects RX4 yX4_hasTimeFor yX4_hasTimeFor, Cond.code yX4_hasTimeFor cX4_hasTimeFor 2 (some .boolean), Cond.constant RX4 109 (100000), Cond.methodLink RX8 94 yX4_letPass, Cond.instanceMethod yX4_letPass, Cond.selects RX4 yX4_letPass yX4_letPass, Cond.code yX4_letPass cX4_letPass 5 (some .int), Cond.methodLink RX4 113 yX4_tick, Cond.instanceMethod yX4_tick, Cond.selects RX4 yX4_tick yX4_tick, Cond.code yX4_tick cX4_tick 8 (some .int), Cond.fieldLink RX4 120 "CacheDiary$Requests" "line" "[I", Cond.fieldLink RX4 130 "CacheDiary$Requests" "putOff" "[I"]
def wsL_acts_r11 : List Cond := [Cond.methodLink RX4 116 yX7_isPending, Cond.methodLink RX4 123 yX7_isWrite, Cond.instanceMethod yX7_isWrite, Cond.selects RX7 yX7_isWrite yX7_isWrite, Cond.code yX7_isWrite cX7_isWrite 2 (some .boolean), Cond.methodLink RX4 126 yX4_isHit, Cond.methodLink RX4 133 yX4_serve, Cond.instanceMethod yX4_serve, Cond.selects RX4 yX4_serve yX4_serve, Cond.code yX4_serve cX4_serve 6 none, Cond.fieldLink RX4 169 "CacheDiary$Requests" "value" "[I", Cond.methodLink RX4 162 yX4_costOf, Cond.instanceMethod yX4_costOf, Cond.selects RX4 yX4_costOf yX4_costOf, Cond.code yX4_costOf cX4_costOf 6 (some .int), Cond.methodLink RX4 154 yJ6_bitCount_0f7a4, Cond.static yJ6_bitCount_0f7a4, Cond.initialized RJ6, Cond.code yJ6_bitCount_0f7a4 cJ6_bitCount_0f7a4 1 (some .int), Cond.constant RJ6 265 (1431655765), Cond.constant RJ6 266 (858993459), Cond.constant RJ6 267 (252645135), Cond.methodLink RX4 159 yX4_lineToDrop, Cond.instanceMethod yX4_lineToDrop]
def wsL_acts_r12 : List Cond := [Cond.selects RX4 yX4_lineToDrop yX4_lineToDrop, Cond.code yX4_lineToDrop cX4_lineToDrop 2 (some .int), Cond.methodLink RX4 208 yX0_freeSlot, Cond.instanceMethod yX0_freeSlot, Cond.selects RX0 yX0_freeSlot yX0_freeSlot, Cond.code yX0_freeSlot cX0_freeSlot 5 (some .int), Cond.methodLink RX4 229 yX0_leastUsed, Cond.instanceMethod yX0_leastUsed, Cond.selects RX0 yX0_leastUsed yX0_leastUsed, Cond.code yX0_leastUsed cX0_leastUsed 6 (some .int), Cond.methodLink RX4 166 yX4_fetch, Cond.instanceMethod yX4_fetch, Cond.selects RX4 yX4_fetch yX4_fetch, Cond.code yX4_fetch cX4_fetch 6 none, Cond.methodLink RX4 190 yX4_makeRoomInDiary, Cond.instanceMethod yX4_makeRoomInDiary, Cond.selects RX4 yX4_makeRoomInDiary yX4_makeRoomInDiary, Cond.code yX4_makeRoomInDiary cX4_makeRoomInDiary 2 none, Cond.methodLink RX4 216 yX1_lineToTear, Cond.instanceMethod yX1_lineToTear, Cond.selects RX1 yX1_lineToTear yX1_lineToTear, Cond.code yX1_lineToTear cX1_lineToTear 4 (some .int), Cond.methodLink RX4 219 yX0_countOf, Cond.methodLink RX4 222 yX1_tearOut]
def wsL_acts_r13 : List Cond := [Cond.methodLink RX4 193 yX1_makePage, Cond.instanceMethod yX1_makePage, Cond.selects RX1 yX1_makePage yX1_makePage, Cond.code yX1_makePage cX1_makePage 2 none, Cond.methodLink RX1 46 yX1_isMarked, Cond.methodLink RX1 50 yX1_use, Cond.instanceMethod yX1_use, Cond.selects RX1 yX1_use yX1_use, Cond.code yX1_use cX1_use 2 none, Cond.methodLink RX4 199 yX0_share, Cond.instanceMethod yX0_share, Cond.selects RX0 yX0_share yX0_share, Cond.code yX0_share cX0_share 3 none, Cond.methodLink RX4 202 yX0_removeOthers, Cond.instanceMethod yX0_removeOthers, Cond.selects RX0 yX0_removeOthers yX0_removeOthers, Cond.code yX0_removeOthers cX0_removeOthers 4 none, Cond.methodLink RX4 205 yX4_throwAway, Cond.methodLink RX4 211 yX0_add, Cond.instanceMethod yX0_add, Cond.selects RX0 yX0_add yX0_add, Cond.code yX0_add cX0_add 6 none, Cond.methodLink RX4 214 yX1_use, Cond.methodLink RX4 172 yX0_own]
def wsL_acts_r14 : List Cond := [Cond.instanceMethod yX0_own, Cond.selects RX0 yX0_own yX0_own, Cond.code yX0_own cX0_own 4 none, Cond.methodLink RX4 176 yX0_use, Cond.instanceMethod yX0_use, Cond.selects RX0 yX0_use yX0_use, Cond.code yX0_use cX0_use 3 none, Cond.methodLink RX4 183 yX3_add, Cond.instanceMethod yX3_add, Cond.selects RX3 yX3_add yX3_add, Cond.code yX3_add cX3_add 8 none, Cond.methodLink RX4 187 yX7_forget, Cond.instanceMethod yX7_forget, Cond.selects RX7 yX7_forget yX7_forget, Cond.code yX7_forget cX7_forget 2 none]
def wsL_acts : List Cond := .code yL_acts cL_acts 7 (some .int) :: ((wsL_acts_r1 ++ (wsL_acts_r2 ++ (wsL_acts_r3 ++ (wsL_acts_r4 ++ (wsL_acts_r5 ++ (wsL_acts_r6 ++ (wsL_acts_r7 ++ (wsL_acts_r8 ++ (wsL_acts_r9 ++ (wsL_acts_r10 ++ (wsL_acts_r11 ++ (wsL_acts_r12 ++ (wsL_acts_r13 ++ wsL_acts_r14))))))))))))) ++ wsX80 ++ wsX40 ++ wsX10 ++ wsX30 ++ wsX70 ++ wsX20 ++ wsX00 ++ (vx_atS RX8 217 "java/lang/IllegalArgumentException" ["java/lang/RuntimeException", "java/lang/Exception"]).filter goodWord ++ (vx_atS RX8 210 "java/lang/IndexOutOfBoundsException" ["java/lang/RuntimeException", "java/lang/Exception"]).filter goodWord ++ (vx_atS RX8 222 "java/lang/IllegalStateException" ["java/lang/RuntimeException", "java/lang/Exception"]).filter goodWord)
def wsL_law0_r1 : List Cond := [Cond.classLink RL 10 RX8, Cond.instantiable RX8 6, Cond.initialized RX8, Cond.methodLink RL 72 yX8_init, Cond.instanceMethod yX8_init, Cond.code yX8_init cX8_init 1 none, Cond.methodLink RX8 3 objectInit, Cond.instanceMethod objectInit, Cond.code objectInit ⟨#[0xb1]⟩ 1 none, Cond.classLink RX8 9 RX4, Cond.instantiable RX4 14, Cond.initialized RX4, Cond.fieldLink RX8 12 "CacheDiary" "machine" "LCacheDiary$Machine;", Cond.fieldLink RX8 20 "CacheDiary" "trial" "LCacheDiary$Machine;", Cond.classLink RX8 23 RX2, Cond.instantiable RX2 2, Cond.initialized RX2, Cond.fieldLink RX8 26 "CacheDiary" "history" "LCacheDiary$History;", Cond.arrayClass .byte, Cond.fieldLink RX8 30 "CacheDiary" "text" "[B", Cond.fieldLink RX8 34 "CacheDiary" "textLength" "I", Cond.classLink RX8 38 RX5, Cond.instantiable RX5 11, Cond.initialized RX5]
def wsL_law0_r2 : List Cond := [Cond.fieldLink RX8 41 "CacheDiary" "orders" "LCacheDiary$OrderReader;", Cond.instanceMethod yX4_init, Cond.code yX4_init cX4_init 1 none, Cond.methodLink RX4 3 objectInit, Cond.arrayClass .int, Cond.fieldLink RX4 9 "CacheDiary$Machine" "memory" "[I", Cond.fieldLink RX4 15 "CacheDiary$Machine" "lastWritten" "[I", Cond.classLink RX4 18 RX0, Cond.instantiable RX0 5, Cond.initialized RX0, Cond.fieldLink RX4 21 "CacheDiary$Machine" "copies" "LCacheDiary$Copies;", Cond.classLink RX4 25 RX1, Cond.instantiable RX1 7, Cond.initialized RX1, Cond.fieldLink RX4 28 "CacheDiary$Machine" "diary" "LCacheDiary$Diary;", Cond.classLink RX4 32 RX7, Cond.instantiable RX7 3, Cond.initialized RX7, Cond.fieldLink RX4 35 "CacheDiary$Machine" "requests" "LCacheDiary$Requests;", Cond.classLink RX4 39 RX3, Cond.instantiable RX3 2, Cond.initialized RX3, Cond.fieldLink RX4 42 "CacheDiary$Machine" "log" "LCacheDiary$Log;", Cond.instanceMethod yX0_init]
def wsL_law0_r3 : List Cond := [Cond.code yX0_init cX0_init 1 none, Cond.methodLink RX0 3 objectInit, Cond.fieldLink RX0 9 "CacheDiary$Copies" "kind" "[I", Cond.fieldLink RX0 15 "CacheDiary$Copies" "value" "[I", Cond.fieldLink RX0 18 "CacheDiary$Copies" "slot" "[I", Cond.fieldLink RX0 21 "CacheDiary$Copies" "lastUse" "[I", Cond.instanceMethod yX1_init, Cond.code yX1_init cX1_init 1 none, Cond.methodLink RX1 3 objectInit, Cond.fieldLink RX1 9 "CacheDiary$Diary" "lastUse" "[I", Cond.instanceMethod yX7_init, Cond.code yX7_init cX7_init 1 none, Cond.methodLink RX7 3 objectInit, Cond.fieldLink RX7 9 "CacheDiary$Requests" "line" "[I", Cond.fieldLink RX7 15 "CacheDiary$Requests" "value" "[I", Cond.fieldLink RX7 18 "CacheDiary$Requests" "putOff" "[I", Cond.instanceMethod yX3_init, Cond.code yX3_init cX3_init 1 none, Cond.methodLink RX3 3 objectInit, Cond.fieldLink RX3 9 "CacheDiary$Log" "facts" "[I", Cond.methodLink RX8 16 yX4_startAnew, Cond.instanceMethod yX4_startAnew, Cond.selects RX4 yX4_startAnew yX4_startAnew, Cond.code yX4_startAnew cX4_startAnew 4 none]
def wsL_law0_r4 : List Cond := [Cond.fieldLink RX4 62 "CacheDiary$Log" "count" "I", Cond.fieldLink RX4 66 "CacheDiary$Machine" "caches" "I", Cond.fieldLink RX4 69 "CacheDiary$Machine" "slots" "I", Cond.fieldLink RX4 72 "CacheDiary$Machine" "time" "I", Cond.fieldLink RX4 75 "CacheDiary$Machine" "messages" "I", Cond.fieldLink RX4 78 "CacheDiary$Machine" "hits" "I", Cond.fieldLink RX4 81 "CacheDiary$Machine" "misses" "I", Cond.fieldLink RX4 84 "CacheDiary$Machine" "races" "I", Cond.fieldLink RX4 87 "CacheDiary$Machine" "broughtBack" "I", Cond.methodLink RX4 46 yJ7_fill_53178, Cond.static yJ7_fill_53178, Cond.initialized RJ7, Cond.code yJ7_fill_53178 cJ7_fill_53178 4 none, Cond.methodLink RX4 52 yX0_removeAll, Cond.instanceMethod yX0_removeAll, Cond.selects RX0 yX0_removeAll yX0_removeAll, Cond.code yX0_removeAll cX0_removeAll 1 none, Cond.fieldLink RX0 30 "CacheDiary$Copies" "uses" "I", Cond.methodLink RX0 24 yJ7_fill_53178, Cond.methodLink RX4 55 yX1_empty, Cond.instanceMethod yX1_empty, Cond.selects RX1 yX1_empty yX1_empty, Cond.code yX1_empty cX1_empty 2 none, Cond.fieldLink RX1 21 "CacheDiary$Diary" "uses" "I"]
def wsL_law0_r5 : List Cond := [Cond.fieldLink RX1 25 "CacheDiary$Diary" "marks" "I", Cond.fieldLink RX1 28 "CacheDiary$Diary" "room" "I", Cond.fieldLink RX1 31 "CacheDiary$Diary" "pages" "I", Cond.fieldLink RX1 34 "CacheDiary$Diary" "timesAsked" "I", Cond.fieldLink RX1 37 "CacheDiary$Diary" "tornOut" "I", Cond.methodLink RX1 15 yJ7_fill_53178, Cond.methodLink RX4 59 yX7_forgetAll, Cond.instanceMethod yX7_forgetAll, Cond.selects RX7 yX7_forgetAll yX7_forgetAll, Cond.code yX7_forgetAll cX7_forgetAll 1 none, Cond.methodLink RX7 21 yJ7_fill_53178, Cond.methodLink RX8 25 yX2_init, Cond.instanceMethod yX2_init, Cond.code yX2_init cX2_init 2 none, Cond.methodLink RX2 3 objectInit, Cond.classLink RX2 9 RX4, Cond.fieldLink RX2 11 "CacheDiary$History" "saved" "[LCacheDiary$Machine;", Cond.instanceMethod yX5_init, Cond.code yX5_init cX5_init 1 none, Cond.methodLink RX5 3 objectInit, Cond.fieldLink RX5 9 "CacheDiary$OrderReader" "cache" "[I", Cond.fieldLink RX5 15 "CacheDiary$OrderReader" "line" "[I", Cond.fieldLink RX5 18 "CacheDiary$OrderReader" "number" "[I", Cond.fieldLink RX5 21 "CacheDiary$Place" "KIND" "LCacheDiary$Place;"]
def wsL_law0_r6 : List Cond := [Cond.fieldLink RX5 27 "CacheDiary$OrderReader" "place" "LCacheDiary$Place;", Cond.methodLink RL 73 yL_cell, Cond.static yL_cell, Cond.initialized RL, Cond.code yL_cell cL_cell 2 (some .int), Cond.constant RL 7 (15551203), Cond.constant RL 8 (2147483647), Cond.methodLink RL 77 yL_sound, Cond.static yL_sound, Cond.code yL_sound cL_sound 4 (some .boolean), Cond.methodLink RL 31 yL_line, Cond.static yL_line, Cond.code yL_line cL_line 8 (some .boolean), Cond.methodLink RL 9 yX8_value, Cond.instanceMethod yX8_value, Cond.selects RX8 yX8_value yX8_value, Cond.code yX8_value cX8_value 2 (some .int), Cond.methodLink RX8 45 yX8_needRange, Cond.static yX8_needRange, Cond.code yX8_needRange cX8_needRange 3 none, Cond.classLink RX8 213 "java/lang/IllegalArgumentException", Cond.initialized "java/lang/IllegalArgumentException", Cond.methodLink RX8 149 yX4_number, Cond.instanceMethod yX4_number]
def wsL_law0_r7 : List Cond := [Cond.selects RX4 yX4_number yX4_number, Cond.code yX4_number cX4_number 2 (some .int), Cond.fieldLink RX4 232 "CacheDiary$Diary" "room" "I", Cond.fieldLink RX4 235 "CacheDiary$Diary" "pages" "I", Cond.fieldLink RX4 238 "CacheDiary$Diary" "timesAsked" "I", Cond.fieldLink RX4 241 "CacheDiary$Diary" "tornOut" "I", Cond.methodLink RX4 110 yX7_count, Cond.instanceMethod yX7_count, Cond.selects RX7 yX7_count yX7_count, Cond.code yX7_count cX7_count 3 (some .int), Cond.methodLink RL 15 yX8_copy, Cond.instanceMethod yX8_copy, Cond.selects RX8 yX8_copy yX8_copy, Cond.code yX8_copy cX8_copy 4 (some .int), Cond.fieldLink RX8 55 "CacheDiary$Machine" "caches" "I", Cond.fieldLink RX8 98 "CacheDiary$Machine" "copies" "LCacheDiary$Copies;", Cond.methodLink RX8 58 yX8_needIndex, Cond.static yX8_needIndex, Cond.code yX8_needIndex cX8_needIndex 2 none, Cond.classLink RX8 206 "java/lang/IndexOutOfBoundsException", Cond.initialized "java/lang/IndexOutOfBoundsException", Cond.methodLink RX8 130 yX0_fact, Cond.instanceMethod yX0_fact, Cond.selects RX0 yX0_fact yX0_fact]
def wsL_law0_r8 : List Cond := [Cond.code yX0_fact cX0_fact 5 (some .int), Cond.methodLink RX0 40 yX0_usedLater, Cond.instanceMethod yX0_usedLater, Cond.selects RX0 yX0_usedLater yX0_usedLater, Cond.code yX0_usedLater cX0_usedLater 7 (some .int), Cond.methodLink RL 19 yX8_line, Cond.instanceMethod yX8_line, Cond.selects RX8 yX8_line yX8_line, Cond.code yX8_line cX8_line 3 (some .int), Cond.methodLink RX8 134 yX4_lineFact, Cond.instanceMethod yX4_lineFact, Cond.selects RX4 yX4_lineFact yX4_lineFact, Cond.code yX4_lineFact cX4_lineFact 3 (some .int), Cond.methodLink RX4 147 yX0_ownerOf, Cond.instanceMethod yX0_ownerOf, Cond.selects RX0 yX0_ownerOf yX0_ownerOf, Cond.code yX0_ownerOf cX0_ownerOf 3 (some .int), Cond.methodLink RX4 151 yX0_sharersOf, Cond.instanceMethod yX0_sharersOf, Cond.selects RX0 yX0_sharersOf yX0_sharersOf, Cond.code yX0_sharersOf cX0_sharersOf 4 (some .int), Cond.methodLink RX4 141 yX1_hasPage, Cond.instanceMethod yX1_hasPage, Cond.selects RX1 yX1_hasPage yX1_hasPage]
def wsL_law0_r9 : List Cond := [Cond.code yX1_hasPage cX1_hasPage 2 (some .boolean), Cond.methodLink RX4 144 yX1_isMarked, Cond.instanceMethod yX1_isMarked, Cond.selects RX1 yX1_isMarked yX1_isMarked, Cond.code yX1_isMarked cX1_isMarked 2 (some .boolean), Cond.methodLink RL 34 yL_cache, Cond.static yL_cache, Cond.code yL_cache cL_cache 7 (some .boolean), Cond.methodLink RL 23 yL_ones, Cond.static yL_ones, Cond.code yL_ones cL_ones 3 (some .int), Cond.methodLink RL 28 yX8_nextDropped, Cond.instanceMethod yX8_nextDropped, Cond.selects RX8 yX8_nextDropped yX8_nextDropped, Cond.code yX8_nextDropped cX8_nextDropped 2 (some .int), Cond.methodLink RX8 160 yX4_lineToDrop, Cond.instanceMethod yX4_lineToDrop, Cond.selects RX4 yX4_lineToDrop yX4_lineToDrop, Cond.code yX4_lineToDrop cX4_lineToDrop 2 (some .int), Cond.methodLink RX4 208 yX0_freeSlot, Cond.instanceMethod yX0_freeSlot, Cond.selects RX0 yX0_freeSlot yX0_freeSlot, Cond.code yX0_freeSlot cX0_freeSlot 5 (some .int), Cond.methodLink RX4 229 yX0_leastUsed]
def wsL_law0_r10 : List Cond := [Cond.instanceMethod yX0_leastUsed, Cond.selects RX0 yX0_leastUsed yX0_leastUsed, Cond.code yX0_leastUsed cX0_leastUsed 6 (some .int), Cond.methodLink RL 37 yX8_nextTorn, Cond.instanceMethod yX8_nextTorn, Cond.selects RX8 yX8_nextTorn yX8_nextTorn, Cond.code yX8_nextTorn cX8_nextTorn 1 (some .int), Cond.fieldLink RX8 114 "CacheDiary$Machine" "diary" "LCacheDiary$Diary;", Cond.methodLink RX8 156 yX1_lineToTear, Cond.instanceMethod yX1_lineToTear, Cond.selects RX1 yX1_lineToTear yX1_lineToTear, Cond.code yX1_lineToTear cX1_lineToTear 4 (some .int), Cond.methodLink RL 81 yX8_begin, Cond.instanceMethod yX8_begin, Cond.selects RX8 yX8_begin yX8_begin, Cond.code yX8_begin cX8_begin 5 (some .int), Cond.fieldLink RX8 52 "CacheDiary$Machine" "time" "I", Cond.methodLink RX8 48 yX2_save, Cond.instanceMethod yX2_save, Cond.selects RX2 yX2_save yX2_save, Cond.code yX2_save cX2_save 2 none, Cond.fieldLink RX2 18 "CacheDiary$History" "count" "I", Cond.methodLink RX2 22 yX2_dropOldest, Cond.instanceMethod yX2_dropOldest]
def wsL_law0_r11 : List Cond := [Cond.selects RX2 yX2_dropOldest yX2_dropOldest, Cond.code yX2_dropOldest cX2_dropOldest 3 none, Cond.methodLink RX2 25 yX4_takeOver, Cond.instanceMethod yX4_takeOver, Cond.selects RX4 yX4_takeOver yX4_takeOver, Cond.code yX4_takeOver cX4_takeOver 2 none, Cond.methodLink RX4 90 arraycopyName, Cond.native arraycopyName, Cond.static arraycopyName, Cond.initialized "java/lang/System", Cond.methodLink RX4 96 yX0_takeOver, Cond.instanceMethod yX0_takeOver, Cond.selects RX0 yX0_takeOver yX0_takeOver, Cond.code yX0_takeOver cX0_takeOver 2 none, Cond.methodLink RX0 34 arraycopyName, Cond.methodLink RX4 100 yX1_takeOver, Cond.instanceMethod yX1_takeOver, Cond.selects RX1 yX1_takeOver yX1_takeOver, Cond.code yX1_takeOver cX1_takeOver 2 none, Cond.methodLink RX1 40 arraycopyName, Cond.methodLink RX4 103 yX7_takeOver, Cond.instanceMethod yX7_takeOver, Cond.selects RX7 yX7_takeOver yX7_takeOver, Cond.code yX7_takeOver cX7_takeOver 2 none]
def wsL_law0_r12 : List Cond := [Cond.methodLink RX7 27 arraycopyName, Cond.methodLink RX4 106 yX3_takeOver, Cond.instanceMethod yX3_takeOver, Cond.selects RX3 yX3_takeOver yX3_takeOver, Cond.code yX3_takeOver cX3_takeOver 2 none, Cond.methodLink RX3 15 arraycopyName, Cond.fieldLink RX3 21 "CacheDiary$Log" "count" "I", Cond.methodLink RL 84 yL_acts, Cond.static yL_acts, Cond.code yL_acts cL_acts 7 (some .int), Cond.methodLink RL 54 yX8_pending, Cond.instanceMethod yX8_pending, Cond.selects RX8 yX8_pending yX8_pending, Cond.code yX8_pending cX8_pending 3 (some .int), Cond.fieldLink RX8 62 "CacheDiary$Machine" "requests" "LCacheDiary$Requests;", Cond.methodLink RX8 137 yX7_fact, Cond.instanceMethod yX7_fact, Cond.selects RX7 yX7_fact yX7_fact, Cond.code yX7_fact cX7_fact 3 (some .int), Cond.methodLink RL 57 yX8_read, Cond.instanceMethod yX8_read, Cond.selects RX8 yX8_read yX8_read, Cond.code yX8_read cX8_read 3 (some .int), Cond.methodLink RX8 66 yX7_isPending]
def wsL_law0_r13 : List Cond := [Cond.instanceMethod yX7_isPending, Cond.selects RX7 yX7_isPending yX7_isPending, Cond.code yX7_isPending cX7_isPending 2 (some .boolean), Cond.methodLink RX8 72 yX8_needState, Cond.static yX8_needState, Cond.code yX8_needState cX8_needState 1 none, Cond.classLink RX8 218 "java/lang/IllegalStateException", Cond.initialized "java/lang/IllegalStateException", Cond.methodLink RX8 76 yX7_ask, Cond.instanceMethod yX7_ask, Cond.selects RX7 yX7_ask yX7_ask, Cond.code yX7_ask cX7_ask 4 none, Cond.methodLink RX8 79 yX4_isHit, Cond.instanceMethod yX4_isHit, Cond.selects RX4 yX4_isHit yX4_isHit, Cond.code yX4_isHit cX4_isHit 5 (some .boolean), Cond.methodLink RX4 137 yX0_kindOf, Cond.instanceMethod yX0_kindOf, Cond.selects RX0 yX0_kindOf yX0_kindOf, Cond.code yX0_kindOf cX0_kindOf 3 (some .int), Cond.methodLink RL 60 yX8_write, Cond.instanceMethod yX8_write, Cond.selects RX8 yX8_write yX8_write, Cond.code yX8_write cX8_write 4 (some .int)]
def wsL_law0_r14 : List Cond := [Cond.methodLink RL 63 yX8_drop, Cond.instanceMethod yX8_drop, Cond.selects RX8 yX8_drop yX8_drop, Cond.code yX8_drop cX8_drop 4 (some .int), Cond.fieldLink RX8 111 "CacheDiary$Machine" "messages" "I", Cond.methodLink RX8 102 yX0_kindOf, Cond.methodLink RX8 108 yX4_throwAway, Cond.instanceMethod yX4_throwAway, Cond.selects RX4 yX4_throwAway yX4_throwAway, Cond.code yX4_throwAway cX4_throwAway 3 none, Cond.methodLink RX4 196 yX4_bringBack, Cond.instanceMethod yX4_bringBack, Cond.selects RX4 yX4_bringBack yX4_bringBack, Cond.code yX4_bringBack cX4_bringBack 3 none, Cond.methodLink RX4 180 yX0_valueOf, Cond.instanceMethod yX0_valueOf, Cond.selects RX0 yX0_valueOf yX0_valueOf, Cond.code yX0_valueOf cX0_valueOf 3 (some .int), Cond.methodLink RX4 226 yX0_remove, Cond.instanceMethod yX0_remove, Cond.selects RX0 yX0_remove yX0_remove, Cond.code yX0_remove cX0_remove 3 none, Cond.methodLink RL 66 yX8_tear, Cond.instanceMethod yX8_tear]
def wsL_law0_r15 : List Cond := [Cond.selects RX8 yX8_tear yX8_tear, Cond.code yX8_tear cX8_tear 3 (some .int), Cond.methodLink RX8 118 yX1_hasPage, Cond.methodLink RX8 123 yX0_countOf, Cond.instanceMethod yX0_countOf, Cond.selects RX0 yX0_countOf yX0_countOf, Cond.code yX0_countOf cX0_countOf 4 (some .int), Cond.methodLink RX8 126 yX1_tearOut, Cond.instanceMethod yX1_tearOut, Cond.selects RX1 yX1_tearOut yX1_tearOut, Cond.code yX1_tearOut cX1_tearOut 3 none, Cond.methodLink RL 69 yX8_pass, Cond.instanceMethod yX8_pass, Cond.selects RX8 yX8_pass yX8_pass, Cond.code yX8_pass cX8_pass 2 (some .int), Cond.methodLink RX8 91 yX4_hasTimeFor, Cond.instanceMethod yX4_hasTimeFor, Cond.selects RX4 yX4_hasTimeFor yX4_hasTimeFor, Cond.code yX4_hasTimeFor cX4_hasTimeFor 2 (some .boolean), Cond.constant RX4 109 (100000), Cond.methodLink RX8 94 yX4_letPass, Cond.instanceMethod yX4_letPass, Cond.selects RX4 yX4_letPass yX4_letPass, Cond.code yX4_letPass cX4_letPass 5 (some .int)]
def wsL_law0_r16 : List Cond := [Cond.methodLink RX4 113 yX4_tick, Cond.instanceMethod yX4_tick, Cond.selects RX4 yX4_tick yX4_tick, Cond.code yX4_tick cX4_tick 8 (some .int), Cond.fieldLink RX4 120 "CacheDiary$Requests" "line" "[I", Cond.fieldLink RX4 130 "CacheDiary$Requests" "putOff" "[I", Cond.methodLink RX4 116 yX7_isPending, Cond.methodLink RX4 123 yX7_isWrite, Cond.instanceMethod yX7_isWrite, Cond.selects RX7 yX7_isWrite yX7_isWrite, Cond.code yX7_isWrite cX7_isWrite 2 (some .boolean), Cond.methodLink RX4 126 yX4_isHit, Cond.methodLink RX4 133 yX4_serve, Cond.instanceMethod yX4_serve, Cond.selects RX4 yX4_serve yX4_serve, Cond.code yX4_serve cX4_serve 6 none, Cond.fieldLink RX4 169 "CacheDiary$Requests" "value" "[I", Cond.methodLink RX4 162 yX4_costOf, Cond.instanceMethod yX4_costOf, Cond.selects RX4 yX4_costOf yX4_costOf, Cond.code yX4_costOf cX4_costOf 6 (some .int), Cond.methodLink RX4 154 yJ6_bitCount_0f7a4, Cond.static yJ6_bitCount_0f7a4, Cond.initialized RJ6]
def wsL_law0_r17 : List Cond := [Cond.code yJ6_bitCount_0f7a4 cJ6_bitCount_0f7a4 1 (some .int), Cond.constant RJ6 265 (1431655765), Cond.constant RJ6 266 (858993459), Cond.constant RJ6 267 (252645135), Cond.methodLink RX4 159 yX4_lineToDrop, Cond.methodLink RX4 166 yX4_fetch, Cond.instanceMethod yX4_fetch, Cond.selects RX4 yX4_fetch yX4_fetch, Cond.code yX4_fetch cX4_fetch 6 none, Cond.methodLink RX4 190 yX4_makeRoomInDiary, Cond.instanceMethod yX4_makeRoomInDiary, Cond.selects RX4 yX4_makeRoomInDiary yX4_makeRoomInDiary, Cond.code yX4_makeRoomInDiary cX4_makeRoomInDiary 2 none, Cond.methodLink RX4 216 yX1_lineToTear, Cond.methodLink RX4 219 yX0_countOf, Cond.methodLink RX4 222 yX1_tearOut, Cond.methodLink RX4 193 yX1_makePage, Cond.instanceMethod yX1_makePage, Cond.selects RX1 yX1_makePage yX1_makePage, Cond.code yX1_makePage cX1_makePage 2 none, Cond.methodLink RX1 46 yX1_isMarked, Cond.methodLink RX1 50 yX1_use, Cond.instanceMethod yX1_use, Cond.selects RX1 yX1_use yX1_use]
def wsL_law0_r18 : List Cond := [Cond.code yX1_use cX1_use 2 none, Cond.methodLink RX4 199 yX0_share, Cond.instanceMethod yX0_share, Cond.selects RX0 yX0_share yX0_share, Cond.code yX0_share cX0_share 3 none, Cond.methodLink RX4 202 yX0_removeOthers, Cond.instanceMethod yX0_removeOthers, Cond.selects RX0 yX0_removeOthers yX0_removeOthers, Cond.code yX0_removeOthers cX0_removeOthers 4 none, Cond.methodLink RX4 205 yX4_throwAway, Cond.methodLink RX4 211 yX0_add, Cond.instanceMethod yX0_add, Cond.selects RX0 yX0_add yX0_add, Cond.code yX0_add cX0_add 6 none, Cond.methodLink RX4 214 yX1_use, Cond.methodLink RX4 172 yX0_own, Cond.instanceMethod yX0_own, Cond.selects RX0 yX0_own yX0_own, Cond.code yX0_own cX0_own 4 none, Cond.methodLink RX4 176 yX0_use, Cond.instanceMethod yX0_use, Cond.selects RX0 yX0_use yX0_use, Cond.code yX0_use cX0_use 3 none, Cond.methodLink RX4 183 yX3_add]
def wsL_law0_r19 : List Cond := [Cond.instanceMethod yX3_add, Cond.selects RX3 yX3_add yX3_add, Cond.code yX3_add cX3_add 8 none, Cond.methodLink RX4 187 yX7_forget, Cond.instanceMethod yX7_forget, Cond.selects RX7 yX7_forget yX7_forget, Cond.code yX7_forget cX7_forget 2 none, Cond.methodLink RL 88 yL_refuses, Cond.static yL_refuses, Cond.code yL_refuses cL_refuses 6 (some .boolean), Cond.methodLink RL 41 yX8_clearText, Cond.instanceMethod yX8_clearText, Cond.selects RX8 yX8_clearText yX8_clearText, Cond.code yX8_clearText cX8_clearText 2 (some .int), Cond.methodLink RL 44 yX8_append, Cond.instanceMethod yX8_append, Cond.selects RX8 yX8_append yX8_append, Cond.code yX8_append cX8_append 2 (some .int), Cond.methodLink RL 47 yX8_digest, Cond.instanceMethod yX8_digest, Cond.selects RX8 yX8_digest yX8_digest, Cond.code yX8_digest cX8_digest 5 (some .long), Cond.constantLong RX8 198 (113987), Cond.constantLong RX8 200 (31)]
def wsL_law0_r20 : List Cond := [Cond.fieldLink RX8 139 "CacheDiary$Machine" "log" "LCacheDiary$Log;", Cond.fieldLink RX8 143 "CacheDiary$Log" "count" "I", Cond.fieldLink RX8 194 "CacheDiary$History" "count" "I", Cond.methodLink RX8 202 yX8_hashLine, Cond.instanceMethod yX8_hashLine, Cond.selects RX8 yX8_hashLine yX8_hashLine, Cond.code yX8_hashLine cX8_hashLine 8 (some .long), Cond.methodLink RX8 148 yX3_fact, Cond.instanceMethod yX3_fact, Cond.selects RX3 yX3_fact yX3_fact, Cond.code yX3_fact cX3_fact 3 (some .int), Cond.methodLink RL 51 yX8_carryOut, Cond.instanceMethod yX8_carryOut, Cond.selects RX8 yX8_carryOut yX8_carryOut, Cond.code yX8_carryOut cX8_carryOut 3 (some .int), Cond.fieldLink RX8 181 "CacheDiary$OrderReader" "count" "I", Cond.fieldLink RX8 188 "CacheDiary$OrderReader" "number" "[I", Cond.fieldLink RX8 190 "CacheDiary$OrderReader" "cache" "[I", Cond.fieldLink RX8 193 "CacheDiary$OrderReader" "line" "[I", Cond.methodLink RX8 177 yX5_readAll, Cond.instanceMethod yX5_readAll, Cond.selects RX5 yX5_readAll yX5_readAll, Cond.code yX5_readAll cX5_readAll 6 (some .int), Cond.fieldLink RX5 30 "CacheDiary$OrderReader" "count" "I"]
def wsL_law0_r21 : List Cond := [Cond.methodLink RX5 34 yX5_take, Cond.instanceMethod yX5_take, Cond.selects RX5 yX5_take yX5_take, Cond.code yX5_take cX5_take 3 (some .int), Cond.fieldLink RX5 42 "CacheDiary$Place" "CACHE" "LCacheDiary$Place;", Cond.fieldLink RX5 48 "CacheDiary$Place" "COLON" "LCacheDiary$Place;", Cond.methodLink RX5 38 yX5_takeKind, Cond.instanceMethod yX5_takeKind, Cond.selects RX5 yX5_takeKind yX5_takeKind, Cond.code yX5_takeKind cX5_takeKind 2 (some .boolean), Cond.fieldLink RX5 57 "CacheDiary$OrderReader" "readCache" "I", Cond.fieldLink RX5 60 "CacheDiary$Place" "TICKS" "LCacheDiary$Place;", Cond.fieldLink RX5 67 "CacheDiary$OrderReader" "write" "Z", Cond.methodLink RX5 63 yX5_startNumber, Cond.instanceMethod yX5_startNumber, Cond.selects RX5 yX5_startNumber yX5_startNumber, Cond.code yX5_startNumber cX5_startNumber 2 none, Cond.fieldLink RX5 74 "CacheDiary$OrderReader" "readNumber" "I", Cond.fieldLink RX5 77 "CacheDiary$OrderReader" "digits" "I", Cond.methodLink RX5 45 yX5_takeCache, Cond.instanceMethod yX5_takeCache, Cond.selects RX5 yX5_takeCache yX5_takeCache, Cond.code yX5_takeCache cX5_takeCache 2 (some .boolean), Cond.methodLink RX5 51 yX5_takeColon]
def wsL_law0_r22 : List Cond := [Cond.instanceMethod yX5_takeColon, Cond.selects RX5 yX5_takeColon yX5_takeColon, Cond.code yX5_takeColon cX5_takeColon 2 (some .boolean), Cond.fieldLink RX5 71 "CacheDiary$Place" "LINE" "LCacheDiary$Place;", Cond.methodLink RX5 54 yX5_takeOfNumber, Cond.instanceMethod yX5_takeOfNumber, Cond.selects RX5 yX5_takeOfNumber yX5_takeOfNumber, Cond.code yX5_takeOfNumber cX5_takeOfNumber 4 (some .int), Cond.fieldLink RX5 83 "CacheDiary$Place" "lowest" "I", Cond.fieldLink RX5 86 "CacheDiary$Place" "highest" "I", Cond.fieldLink RX5 89 "CacheDiary$OrderReader" "firstDigit" "I", Cond.fieldLink RX5 92 "CacheDiary$OrderReader" "readLine" "I", Cond.fieldLink RX5 95 "CacheDiary$Place" "VALUE" "LCacheDiary$Place;", Cond.methodLink RX5 80 yX5_takeDigit, Cond.instanceMethod yX5_takeDigit, Cond.selects RX5 yX5_takeDigit yX5_takeDigit, Cond.code yX5_takeDigit cX5_takeDigit 3 (some .int), Cond.fieldLink RX5 101 "CacheDiary$Place" "maxDigits" "I", Cond.methodLink RX5 98 yX5_keepOrder, Cond.instanceMethod yX5_keepOrder, Cond.selects RX5 yX5_keepOrder yX5_keepOrder, Cond.code yX5_keepOrder cX5_keepOrder 1 none, Cond.methodLink RX8 182 yX8_isPossible, Cond.instanceMethod yX8_isPossible]
def wsL_law0_r23 : List Cond := [Cond.selects RX8 yX8_isPossible yX8_isPossible, Cond.code yX8_isPossible cX8_isPossible 3 (some .boolean), Cond.methodLink RX8 185 yX5_isTicks, Cond.instanceMethod yX5_isTicks, Cond.selects RX5 yX5_isTicks yX5_isTicks, Cond.code yX5_isTicks cX5_isTicks 2 (some .boolean), Cond.methodLink RL 91 yX8_undo, Cond.instanceMethod yX8_undo, Cond.selects RX8 yX8_undo yX8_undo, Cond.code yX8_undo cX8_undo 1 (some .int), Cond.methodLink RX8 195 yX2_restore, Cond.instanceMethod yX2_restore, Cond.selects RX2 yX2_restore yX2_restore, Cond.code yX2_restore cX2_restore 2 none]
def wsL_law0 : List Cond := (wsL_law0_r1 ++ (wsL_law0_r2 ++ (wsL_law0_r3 ++ (wsL_law0_r4 ++ (wsL_law0_r5 ++ (wsL_law0_r6 ++ (wsL_law0_r7 ++ (wsL_law0_r8 ++ (wsL_law0_r9 ++ (wsL_law0_r10 ++ (wsL_law0_r11 ++ (wsL_law0_r12 ++ (wsL_law0_r13 ++ (wsL_law0_r14 ++ (wsL_law0_r15 ++ (wsL_law0_r16 ++ (wsL_law0_r17 ++ (wsL_law0_r18 ++ (wsL_law0_r19 ++ (wsL_law0_r20 ++ (wsL_law0_r21 ++ (wsL_law0_r22 ++ wsL_law0_r23)))))))))))))))))))))) ++ wsX80 ++ wsX40 ++ wsX20 ++ wsX50 ++ wsX00 ++ wsX10 ++ wsX70 ++ wsX30 ++ ([] : List Cond)
def wsL_law : List Cond := wsL_law0 ++ (vx_atS RX8 217 "java/lang/IllegalArgumentException" ["java/lang/RuntimeException", "java/lang/Exception"]).filter goodWord ++ (vx_atS RX8 210 "java/lang/IndexOutOfBoundsException" ["java/lang/RuntimeException", "java/lang/Exception"]).filter goodWord ++ (vx_atS RX8 222 "java/lang/IllegalStateException" ["java/lang/RuntimeException", "java/lang/Exception"]).filter goodWord
theorem inlX0 : ∀ w ∈ wsX00, w ∈ wsL_law := fun _ h => List.mem_append_left _ (List.mem_append_left _ (List.mem_append_left _ (List.mem_append_left _ (List.mem_append_left _ (List.mem_append_left _ (List.mem_append_left _ (List.mem_append_right _ h)))))))
theorem inlX1 : ∀ w ∈ wsX10, w ∈ wsL_law := fun _ h => List.mem_append_left _ (List.mem_append_left _ (List.mem_append_left _ (List.mem_append_left _ (List.mem_append_left _ (List.mem_append_left _ (List.mem_append_right _ h))))))
theorem inlX2 : ∀ w ∈ wsX20, w ∈ wsL_law := fun _ h => List.mem_append_left _ (List.mem_append_left _ (List.mem_append_left _ (List.mem_append_left _ (List.mem_append_left _ (List.mem_append_left _ (List.mem_append_left _ (List.mem_append_left _ (List.mem_append_left _ (List.mem_append_right _ h)))))))))
theorem inlX3 : ∀ w ∈ wsX30, w ∈ wsL_law := fun _ h => List.mem_append_left _ (List.mem_append_left _ (List.mem_append_left _ (List.mem_append_left _ (List.mem_append_right _ h))))
theorem inlX4 : ∀ w ∈ wsX40, w ∈ wsL_law := fun _ h => List.mem_append_left _ (List.mem_append_left _ (List.mem_append_left _ (List.mem_append_left _ (List.mem_append_left _ (List.mem_append_left _ (List.mem_append_left _ (List.mem_append_left _ (List.mem_append_left _ (List.mem_append_left _ (List.mem_append_right _ h))))))))))
theorem inlX5 : ∀ w ∈ wsX50, w ∈ wsL_law := fun _ h => List.mem_append_left _ (List.mem_append_left _ (List.mem_append_left _ (List.mem_append_left _ (List.mem_append_left _ (List.mem_append_left _ (List.mem_append_left _ (List.mem_append_left _ (List.mem_append_right _ h))))))))
theorem inlX7 : ∀ w ∈ wsX70, w ∈ wsL_law := fun _ h => List.mem_append_left _ (List.mem_append_left _ (List.mem_append_left _ (List.mem_append_left _ (List.mem_append_left _ (List.mem_append_right _ h)))))
theorem inlX8 : ∀ w ∈ wsX80, w ∈ wsL_law := fun _ h => List.mem_append_left _ (List.mem_append_left _ (List.mem_append_left _ (List.mem_append_left _ (List.mem_append_left _ (List.mem_append_left _ (List.mem_append_left _ (List.mem_append_left _ (List.mem_append_left _ (List.mem_append_left _ (List.mem_append_left _ (List.mem_append_right _ h)))))))))))
abbrev vwCl : List vw_C := [(RX0, TX0, 5), (RX1, TX1, 7), (RX2, TX2, 2), (RX3, TX3, 2), (RX4, TX4, 14), (RX5, TX5, 11), (RX7, TX7, 3), (RX8, TX8, 6)]
