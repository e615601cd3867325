/-! ===== BEGIN printed: names, fields, word lists, decode rows ===== -/
def RX0 : String := "UnibusMachine$Bus"
def TX0 : u_T := fun k => match k with
  | 0 => ("UnibusMachine$Bus", "memory", "[I", true)
  | 1 => ("UnibusMachine$Bus", "map", "LUnibusMachine$PageMap;", true)
  | 2 => ("UnibusMachine$Bus", "status", "LUnibusMachine$Status;", true)
  | 3 => ("UnibusMachine$Bus", "keyboard", "LUnibusMachine$Keyboard;", true)
  | 4 => ("UnibusMachine$Bus", "printer", "LUnibusMachine$Printer;", true)
  | _ => ("UnibusMachine$Bus", "drive", "LUnibusMachine$Drive;", true)
def tyX0 : Nat → FieldType := fun k => match k with
  | 0 => .array .int
  | 1 => .object "UnibusMachine$PageMap"
  | 2 => .object "UnibusMachine$Status"
  | 3 => .object "UnibusMachine$Keyboard"
  | 4 => .object "UnibusMachine$Printer"
  | _ => .object "UnibusMachine$Drive"
abbrev wsX00 : List Cond := u_ws RX0 TX0 6
theorem nmX0 : ∀ a, a < 6 → ∀ b, b < 6 → a ≠ b → (TX0 a).2.1 ≠ (TX0 b).2.1 := by decide +kernel
theorem tyX0_ok : ∀ k, k < 6 → parseFieldDescriptor (TX0 k).2.2.1 = some (tyX0 k) := by decide +kernel
abbrev cX0_init : ByteArray := prog_2_method_1_code
def yX0_init : MethodName := ⟨RX0, "<init>", "()V"⟩
abbrev cX0_peek : ByteArray := prog_2_method_2_code
def yX0_peek : MethodName := ⟨RX0, "peek", "(I)I"⟩
abbrev cX0_read : ByteArray := prog_2_method_3_code
def yX0_read : MethodName := ⟨RX0, "read", "(I)I"⟩
abbrev cX0_write : ByteArray := prog_2_method_4_code
def yX0_write : MethodName := ⟨RX0, "write", "(II)Z"⟩
abbrev cX0_nextInstruction : ByteArray := prog_2_method_5_code
def yX0_nextInstruction : MethodName := ⟨RX0, "nextInstruction", "()V"⟩
abbrev cX0_goOn : ByteArray := prog_2_method_6_code
def yX0_goOn : MethodName := ⟨RX0, "goOn", "()V"⟩
abbrev cX0_reset : ByteArray := prog_2_method_7_code
def yX0_reset : MethodName := ⟨RX0, "reset", "()V"⟩
def RX1 : String := "UnibusMachine$Drive"
def TX1 : u_T := fun k => match k with
  | 0 => ("UnibusMachine$Line", "bits", "I", false)
  | 1 => ("UnibusMachine$Line", "wanting", "Z", false)
  | 2 => ("UnibusMachine$Drive", "words", "[I", true)
  | 3 => ("UnibusMachine$Drive", "writing", "I", false)
  | 4 => ("UnibusMachine$Drive", "wrong", "I", false)
  | 5 => ("UnibusMachine$Drive", "count", "I", false)
  | 6 => ("UnibusMachine$Drive", "address", "I", false)
  | 7 => ("UnibusMachine$Drive", "sector", "I", false)
  | 8 => ("UnibusMachine$Drive", "left", "I", false)
  | _ => ("UnibusMachine$Drive", "fresh", "Z", false)
def tyX1 : Nat → FieldType := fun k => match k with
  | 0 => .int
  | 1 => .boolean
  | 2 => .array .int
  | 3 => .int
  | 4 => .int
  | 5 => .int
  | 6 => .int
  | 7 => .int
  | 8 => .int
  | _ => .boolean
abbrev wsX10 : List Cond := u_ws RX1 TX1 10
theorem nmX1 : ∀ a, a < 10 → ∀ b, b < 10 → a ≠ b → (TX1 a).2.1 ≠ (TX1 b).2.1 := by decide +kernel
theorem tyX1_ok : ∀ k, k < 10 → parseFieldDescriptor (TX1 k).2.2.1 = some (tyX1 k) := by decide +kernel
abbrev cX1_init : ByteArray := prog_3_method_1_code
def yX1_init : MethodName := ⟨RX1, "<init>", "()V"⟩
abbrev cX1_begin : ByteArray := prog_3_method_2_code
def yX1_begin : MethodName := ⟨RX1, "begin", "(I)V"⟩
abbrev cX1_goOn : ByteArray := prog_3_method_3_code
def yX1_goOn : MethodName := ⟨RX1, "goOn", "([I)V"⟩
abbrev cX1_transfer : ByteArray := prog_3_method_4_code
def yX1_transfer : MethodName := ⟨RX1, "transfer", "([I)V"⟩
abbrev cX1_reset : ByteArray := prog_3_method_5_code
def yX1_reset : MethodName := ⟨RX1, "reset", "()V"⟩
def RX2 : String := "UnibusMachine$Keyboard"
def TX2 : u_T := fun k => match k with
  | 0 => ("UnibusMachine$Line", "bits", "I", false)
  | 1 => ("UnibusMachine$Line", "wanting", "Z", false)
  | _ => ("UnibusMachine$Keyboard", "character", "I", false)
def tyX2 : Nat → FieldType := fun k => match k with
  | 0 => .int
  | 1 => .boolean
  | _ => .int
abbrev wsX20 : List Cond := u_ws RX2 TX2 3
theorem nmX2 : ∀ a, a < 3 → ∀ b, b < 3 → a ≠ b → (TX2 a).2.1 ≠ (TX2 b).2.1 := by decide +kernel
theorem tyX2_ok : ∀ k, k < 3 → parseFieldDescriptor (TX2 k).2.2.1 = some (tyX2 k) := by decide +kernel
abbrev cX2_init : ByteArray := prog_4_method_1_code
def yX2_init : MethodName := ⟨RX2, "<init>", "()V"⟩
abbrev cX2_type : ByteArray := prog_4_method_2_code
def yX2_type : MethodName := ⟨RX2, "type", "(I)V"⟩
def RX3 : String := "UnibusMachine$Line"
def TX3 : u_T := fun k => match k with
  | _ => ("", "", "", false)
def tyX3 : Nat → FieldType := fun k => match k with
  | _ => .int
abbrev wsX30 : List Cond := u_ws RX3 TX3 0
theorem nmX3 : ∀ a, a < 0 → ∀ b, b < 0 → a ≠ b → (TX3 a).2.1 ≠ (TX3 b).2.1 := by decide +kernel
theorem tyX3_ok : ∀ k, k < 0 → parseFieldDescriptor (TX3 k).2.2.1 = some (tyX3 k) := by decide +kernel
abbrev cX3_init : ByteArray := prog_5_method_1_code
def yX3_init : MethodName := ⟨RX3, "<init>", "()V"⟩
abbrev cX3_become : ByteArray := prog_5_method_2_code
def yX3_become : MethodName := ⟨RX3, "become", "(I)V"⟩
def RX4 : String := "UnibusMachine$PageMap"
def TX4 : u_T := fun k => match k with
  | 0 => ("UnibusMachine$PageMap", "descriptors", "[I", true)
  | 1 => ("UnibusMachine$PageMap", "bases", "[I", true)
  | _ => ("UnibusMachine$PageMap", "control", "I", false)
def tyX4 : Nat → FieldType := fun k => match k with
  | 0 => .array .int
  | 1 => .array .int
  | _ => .int
abbrev wsX40 : List Cond := u_ws RX4 TX4 3
theorem nmX4 : ∀ a, a < 3 → ∀ b, b < 3 → a ≠ b → (TX4 a).2.1 ≠ (TX4 b).2.1 := by decide +kernel
theorem tyX4_ok : ∀ k, k < 3 → parseFieldDescriptor (TX4 k).2.2.1 = some (tyX4 k) := by decide +kernel
abbrev cX4_init : ByteArray := prog_6_method_1_code
def yX4_init : MethodName := ⟨RX4, "<init>", "()V"⟩
abbrev cX4_locate : ByteArray := prog_6_method_2_code
def yX4_locate : MethodName := ⟨RX4, "locate", "(IIZ)I"⟩
def RX5 : String := "UnibusMachine$Printer"
def TX5 : u_T := fun k => match k with
  | 0 => ("UnibusMachine$Line", "bits", "I", false)
  | 1 => ("UnibusMachine$Line", "wanting", "Z", false)
  | 2 => ("UnibusMachine$Printer", "paper", "[I", true)
  | 3 => ("UnibusMachine$Printer", "count", "I", false)
  | 4 => ("UnibusMachine$Printer", "character", "I", false)
  | 5 => ("UnibusMachine$Printer", "left", "I", false)
  | _ => ("UnibusMachine$Printer", "fresh", "Z", false)
def tyX5 : Nat → FieldType := fun k => match k with
  | 0 => .int
  | 1 => .boolean
  | 2 => .array .int
  | 3 => .int
  | 4 => .int
  | 5 => .int
  | _ => .boolean
abbrev wsX50 : List Cond := u_ws RX5 TX5 7
theorem nmX5 : ∀ a, a < 7 → ∀ b, b < 7 → a ≠ b → (TX5 a).2.1 ≠ (TX5 b).2.1 := by decide +kernel
theorem tyX5_ok : ∀ k, k < 7 → parseFieldDescriptor (TX5 k).2.2.1 = some (tyX5 k) := by decide +kernel
abbrev cX5_init : ByteArray := prog_7_method_1_code
def yX5_init : MethodName := ⟨RX5, "<init>", "()V"⟩
abbrev cX5_begin : ByteArray := prog_7_method_2_code
def yX5_begin : MethodName := ⟨RX5, "begin", "(I)V"⟩
abbrev cX5_goOn : ByteArray := prog_7_method_3_code
def yX5_goOn : MethodName := ⟨RX5, "goOn", "()V"⟩
abbrev cX5_reset : ByteArray := prog_7_method_4_code
def yX5_reset : MethodName := ⟨RX5, "reset", "()V"⟩
def RX6 : String := "UnibusMachine$Processor"
def TX6 : u_T := fun k => match k with
  | 0 => ("UnibusMachine$Processor", "registers", "[I", true)
  | 1 => ("UnibusMachine$Processor", "bus", "LUnibusMachine$Bus;", true)
  | 2 => ("UnibusMachine$Processor", "status", "LUnibusMachine$Status;", true)
  | 3 => ("UnibusMachine$Processor", "otherStack", "I", false)
  | 4 => ("UnibusMachine$Processor", "halted", "I", false)
  | 5 => ("UnibusMachine$Processor", "waiting", "Z", false)
  | 6 => ("UnibusMachine$Processor", "vector", "I", false)
  | 7 => ("UnibusMachine$Processor", "named", "I", false)
  | _ => ("UnibusMachine$Processor", "flags", "I", false)
def tyX6 : Nat → FieldType := fun k => match k with
  | 0 => .array .int
  | 1 => .object "UnibusMachine$Bus"
  | 2 => .object "UnibusMachine$Status"
  | 3 => .int
  | 4 => .int
  | 5 => .boolean
  | 6 => .int
  | 7 => .int
  | _ => .int
abbrev wsX60 : List Cond := u_ws RX6 TX6 9
theorem nmX6 : ∀ a, a < 9 → ∀ b, b < 9 → a ≠ b → (TX6 a).2.1 ≠ (TX6 b).2.1 := by decide +kernel
theorem tyX6_ok : ∀ k, k < 9 → parseFieldDescriptor (TX6 k).2.2.1 = some (tyX6 k) := by decide +kernel
abbrev cX6_init : ByteArray := prog_8_method_1_code
def yX6_init : MethodName := ⟨RX6, "<init>", "(LUnibusMachine$Bus;)V"⟩
abbrev cX6_mode : ByteArray := prog_8_method_2_code
def yX6_mode : MethodName := ⟨RX6, "mode", "()I"⟩
abbrev cX6_modeBefore : ByteArray := prog_8_method_3_code
def yX6_modeBefore : MethodName := ⟨RX6, "modeBefore", "()I"⟩
abbrev cX6_takeStatus : ByteArray := prog_8_method_4_code
def yX6_takeStatus : MethodName := ⟨RX6, "takeStatus", "(I)V"⟩
abbrev cX6_perform : ByteArray := prog_8_method_5_code
def yX6_perform : MethodName := ⟨RX6, "perform", "()V"⟩
abbrev cX6_settle : ByteArray := prog_8_method_6_code
def yX6_settle : MethodName := ⟨RX6, "settle", "()V"⟩
abbrev cX6_lookForInterrupt : ByteArray := prog_8_method_7_code
def yX6_lookForInterrupt : MethodName := ⟨RX6, "lookForInterrupt", "()V"⟩
abbrev cX6_enter : ByteArray := prog_8_method_8_code
def yX6_enter : MethodName := ⟨RX6, "enter", "(I)V"⟩
abbrev cX6_trap : ByteArray := prog_8_method_9_code
def yX6_trap : MethodName := ⟨RX6, "trap", "(I)V"⟩
abbrev cX6_stop : ByteArray := prog_8_method_10_code
def yX6_stop : MethodName := ⟨RX6, "stop", "(I)V"⟩
abbrev cX6_readWord : ByteArray := prog_8_method_11_code
def yX6_readWord : MethodName := ⟨RX6, "readWord", "(II)I"⟩
abbrev cX6_writeWord : ByteArray := prog_8_method_12_code
def yX6_writeWord : MethodName := ⟨RX6, "writeWord", "(III)V"⟩
abbrev cX6_readByte : ByteArray := prog_8_method_13_code
def yX6_readByte : MethodName := ⟨RX6, "readByte", "(I)I"⟩
abbrev cX6_writeByte : ByteArray := prog_8_method_14_code
def yX6_writeByte : MethodName := ⟨RX6, "writeByte", "(II)V"⟩
abbrev cX6_place : ByteArray := prog_8_method_15_code
def yX6_place : MethodName := ⟨RX6, "place", "(IIZ)I"⟩
abbrev cX6_push : ByteArray := prog_8_method_16_code
def yX6_push : MethodName := ⟨RX6, "push", "(I)V"⟩
abbrev cX6_pop : ByteArray := prog_8_method_17_code
def yX6_pop : MethodName := ⟨RX6, "pop", "()I"⟩
abbrev cX6_grow : ByteArray := prog_8_method_18_code
def yX6_grow : MethodName := ⟨RX6, "grow", "(II)I"⟩
abbrev cX6_fall : ByteArray := prog_8_method_19_code
def yX6_fall : MethodName := ⟨RX6, "fall", "(II)I"⟩
abbrev cX6_find : ByteArray := prog_8_method_20_code
def yX6_find : MethodName := ⟨RX6, "find", "(IZ)I"⟩
abbrev cX6_contents : ByteArray := prog_8_method_21_code
def yX6_contents : MethodName := ⟨RX6, "contents", "(IZ)I"⟩
abbrev cX6_put : ByteArray := prog_8_method_22_code
def yX6_put : MethodName := ⟨RX6, "put", "(IIZ)V"⟩
abbrev cX6_execute : ByteArray := prog_8_method_23_code
def yX6_execute : MethodName := ⟨RX6, "execute", "(I)V"⟩
abbrev cX6_mark : ByteArray := prog_8_method_24_code
def yX6_mark : MethodName := ⟨RX6, "mark", "(IIZI)V"⟩
abbrev cX6_doubleOperand : ByteArray := prog_8_method_25_code
def yX6_doubleOperand : MethodName := ⟨RX6, "doubleOperand", "(I)V"⟩
abbrev cX6_joined : ByteArray := prog_8_method_26_code
def yX6_joined : MethodName := ⟨RX6, "joined", "(IIII)I"⟩
abbrev cX6_overflowOfDouble : ByteArray := prog_8_method_27_code
def yX6_overflowOfDouble : MethodName := ⟨RX6, "overflowOfDouble", "(IIIII)Z"⟩
abbrev cX6_carryOfDouble : ByteArray := prog_8_method_28_code
def yX6_carryOfDouble : MethodName := ⟨RX6, "carryOfDouble", "(III)I"⟩
abbrev cX6_singleOperand : ByteArray := prog_8_method_29_code
def yX6_singleOperand : MethodName := ⟨RX6, "singleOperand", "(IIZ)V"⟩
abbrev cX6_changed : ByteArray := prog_8_method_30_code
def yX6_changed : MethodName := ⟨RX6, "changed", "(IIII)I"⟩
abbrev cX6_carryOfSingle : ByteArray := prog_8_method_31_code
def yX6_carryOfSingle : MethodName := ⟨RX6, "carryOfSingle", "(IIIII)I"⟩
abbrev cX6_overflowOfSingle : ByteArray := prog_8_method_32_code
def yX6_overflowOfSingle : MethodName := ⟨RX6, "overflowOfSingle", "(IIIII)Z"⟩
abbrev cX6_multiply : ByteArray := prog_8_method_33_code
def yX6_multiply : MethodName := ⟨RX6, "multiply", "(I)V"⟩
abbrev cX6_exclusiveOr : ByteArray := prog_8_method_34_code
def yX6_exclusiveOr : MethodName := ⟨RX6, "exclusiveOr", "(I)V"⟩
abbrev cX6_countDown : ByteArray := prog_8_method_35_code
def yX6_countDown : MethodName := ⟨RX6, "countDown", "(I)V"⟩
abbrev cX6_signed : ByteArray := prog_8_method_36_code
def yX6_signed : MethodName := ⟨RX6, "signed", "(I)I"⟩
abbrev cX6_branch : ByteArray := prog_8_method_37_code
def yX6_branch : MethodName := ⟨RX6, "branch", "(I)V"⟩
abbrev cX6_branches : ByteArray := prog_8_method_38_code
def yX6_branches : MethodName := ⟨RX6, "branches", "(I)Z"⟩
abbrev cX6_withoutOperand : ByteArray := prog_8_method_39_code
def yX6_withoutOperand : MethodName := ⟨RX6, "withoutOperand", "(I)V"⟩
abbrev cX6_returnFromTrap : ByteArray := prog_8_method_40_code
def yX6_returnFromTrap : MethodName := ⟨RX6, "returnFromTrap", "()V"⟩
abbrev cX6_returnOrFlags : ByteArray := prog_8_method_41_code
def yX6_returnOrFlags : MethodName := ⟨RX6, "returnOrFlags", "(I)V"⟩
abbrev cX6_jump : ByteArray := prog_8_method_42_code
def yX6_jump : MethodName := ⟨RX6, "jump", "(I)V"⟩
abbrev cX6_jumpToSubroutine : ByteArray := prog_8_method_43_code
def yX6_jumpToSubroutine : MethodName := ⟨RX6, "jumpToSubroutine", "(I)V"⟩
abbrev cX6_swapBytes : ByteArray := prog_8_method_44_code
def yX6_swapBytes : MethodName := ⟨RX6, "swapBytes", "(I)V"⟩
abbrev cX6_extendSign : ByteArray := prog_8_method_45_code
def yX6_extendSign : MethodName := ⟨RX6, "extendSign", "(I)V"⟩
abbrev cX6_moveFromBefore : ByteArray := prog_8_method_46_code
def yX6_moveFromBefore : MethodName := ⟨RX6, "moveFromBefore", "(I)V"⟩
abbrev cX6_moveToBefore : ByteArray := prog_8_method_47_code
def yX6_moveToBefore : MethodName := ⟨RX6, "moveToBefore", "(I)V"⟩
abbrev cX6_isOtherStack : ByteArray := prog_8_method_48_code
def yX6_isOtherStack : MethodName := ⟨RX6, "isOtherStack", "(I)Z"⟩
def RX7 : String := "UnibusMachine$Status"
def TX7 : u_T := fun k => match k with
  | 0 => ("UnibusMachine$Status", "now", "I", false)
  | _ => ("UnibusMachine$Status", "written", "I", false)
def tyX7 : Nat → FieldType := fun k => match k with
  | 0 => .int
  | _ => .int
abbrev wsX70 : List Cond := u_ws RX7 TX7 2
theorem nmX7 : ∀ a, a < 2 → ∀ b, b < 2 → a ≠ b → (TX7 a).2.1 ≠ (TX7 b).2.1 := by decide +kernel
theorem tyX7_ok : ∀ k, k < 2 → parseFieldDescriptor (TX7 k).2.2.1 = some (tyX7 k) := by decide +kernel
abbrev cX7_init : ByteArray := prog_9_method_1_code
def yX7_init : MethodName := ⟨RX7, "<init>", "()V"⟩
def RX8 : String := "UnibusMachine"
def TX8 : u_T := fun k => match k with
  | 0 => ("UnibusMachine", "bus", "LUnibusMachine$Bus;", true)
  | _ => ("UnibusMachine", "processor", "LUnibusMachine$Processor;", true)
def tyX8 : Nat → FieldType := fun k => match k with
  | 0 => .object "UnibusMachine$Bus"
  | _ => .object "UnibusMachine$Processor"
abbrev wsX80 : List Cond := u_ws RX8 TX8 2
theorem nmX8 : ∀ a, a < 2 → ∀ b, b < 2 → a ≠ b → (TX8 a).2.1 ≠ (TX8 b).2.1 := by decide +kernel
theorem tyX8_ok : ∀ k, k < 2 → parseFieldDescriptor (TX8 k).2.2.1 = some (tyX8 k) := by decide +kernel
abbrev cX8_init : ByteArray := prog_1_method_1_code
def yX8_init : MethodName := ⟨RX8, "<init>", "()V"⟩
abbrev cX8_deposit : ByteArray := prog_1_method_2_code
def yX8_deposit : MethodName := ⟨RX8, "deposit", "(II)V"⟩
abbrev cX8_examine : ByteArray := prog_1_method_3_code
def yX8_examine : MethodName := ⟨RX8, "examine", "(I)I"⟩
abbrev cX8_set : ByteArray := prog_1_method_4_code
def yX8_set : MethodName := ⟨RX8, "set", "(II)V"⟩
abbrev cX8_register : ByteArray := prog_1_method_5_code
def yX8_register : MethodName := ⟨RX8, "register", "(I)I"⟩
abbrev cX8_start : ByteArray := prog_1_method_6_code
def yX8_start : MethodName := ⟨RX8, "start", "(I)V"⟩
abbrev cX8_run : ByteArray := prog_1_method_7_code
def yX8_run : MethodName := ⟨RX8, "run", "(I)I"⟩
abbrev cX8_key : ByteArray := prog_1_method_8_code
def yX8_key : MethodName := ⟨RX8, "key", "(I)V"⟩
abbrev cX8_printed : ByteArray := prog_1_method_9_code
def yX8_printed : MethodName := ⟨RX8, "printed", "(I)I"⟩
abbrev cX8_load : ByteArray := prog_1_method_10_code
def yX8_load : MethodName := ⟨RX8, "load", "(III)V"⟩
abbrev cX8_disk : ByteArray := prog_1_method_11_code
def yX8_disk : MethodName := ⟨RX8, "disk", "(II)I"⟩
abbrev cX8_device : ByteArray := prog_1_method_12_code
def yX8_device : MethodName := ⟨RX8, "device", "(I)I"⟩
abbrev cX8_state : ByteArray := prog_1_method_13_code
def yX8_state : MethodName := ⟨RX8, "state", "()I"⟩
abbrev cX8_isWord : ByteArray := prog_1_method_14_code
def yX8_isWord : MethodName := ⟨RX8, "isWord", "(I)Z"⟩
abbrev cX8_isMemory : ByteArray := prog_1_method_15_code
def yX8_isMemory : MethodName := ⟨RX8, "isMemory", "(I)Z"⟩
abbrev cX8_isDiskWord : ByteArray := prog_1_method_16_code
def yX8_isDiskWord : MethodName := ⟨RX8, "isDiskWord", "(II)Z"⟩
def RX9 : String := "UnibusMachineModel"
def TX9 : u_T := fun k => match k with
  | 0 => ("UnibusMachineModel", "thrown", "I", false)
  | 1 => ("UnibusMachineModel", "memory", "[I", true)
  | 2 => ("UnibusMachineModel", "descriptor", "[I", true)
  | 3 => ("UnibusMachineModel", "base", "[I", true)
  | 4 => ("UnibusMachineModel", "control", "I", false)
  | 5 => ("UnibusMachineModel", "status", "I", false)
  | 6 => ("UnibusMachineModel", "reg", "[I", true)
  | 7 => ("UnibusMachineModel", "farStack", "I", false)
  | 8 => ("UnibusMachineModel", "mode", "I", false)
  | 9 => ("UnibusMachineModel", "state", "I", false)
  | 10 => ("UnibusMachineModel", "wrong", "I", false)
  | 11 => ("UnibusMachineModel", "over", "Z", false)
  | 12 => ("UnibusMachineModel", "carry", "Z", false)
  | 13 => ("UnibusMachineModel", "ready", "[Z", true)
  | 14 => ("UnibusMachineModel", "enabled", "[Z", true)
  | 15 => ("UnibusMachineModel", "both", "[Z", true)
  | 16 => ("UnibusMachineModel", "wants", "[Z", true)
  | 17 => ("UnibusMachineModel", "busy", "[I", true)
  | 18 => ("UnibusMachineModel", "typed", "I", false)
  | 19 => ("UnibusMachineModel", "printing", "I", false)
  | 20 => ("UnibusMachineModel", "count", "I", false)
  | 21 => ("UnibusMachineModel", "paper", "[I", true)
  | 22 => ("UnibusMachineModel", "sectors", "[I", true)
  | 23 => ("UnibusMachineModel", "writes", "Z", false)
  | 24 => ("UnibusMachineModel", "failed", "Z", false)
  | 25 => ("UnibusMachineModel", "many", "I", false)
  | 26 => ("UnibusMachineModel", "from", "I", false)
  | _ => ("UnibusMachineModel", "sector", "I", false)
def tyX9 : Nat → FieldType := fun k => match k with
  | 0 => .int
  | 1 => .array .int
  | 2 => .array .int
  | 3 => .array .int
  | 4 => .int
  | 5 => .int
  | 6 => .array .int
  | 7 => .int
  | 8 => .int
  | 9 => .int
  | 10 => .int
  | 11 => .boolean
  | 12 => .boolean
  | 13 => .array .boolean
  | 14 => .array .boolean
  | 15 => .array .boolean
  | 16 => .array .boolean
  | 17 => .array .int
  | 18 => .int
  | 19 => .int
  | 20 => .int
  | 21 => .array .int
  | 22 => .array .int
  | 23 => .boolean
  | 24 => .boolean
  | 25 => .int
  | 26 => .int
  | _ => .int
abbrev wsX90 : List Cond := u_ws RX9 TX9 28
theorem nmX9 : ∀ a, a < 28 → ∀ b, b < 28 → a ≠ b → (TX9 a).2.1 ≠ (TX9 b).2.1 := by decide +kernel
theorem tyX9_ok : ∀ k, k < 28 → parseFieldDescriptor (TX9 k).2.2.1 = some (tyX9 k) := by decide +kernel
abbrev cX9_init : ByteArray := prog_11_method_1_code
def yX9_init : MethodName := ⟨RX9, "<init>", "()V"⟩
abbrev cX9_thrown : ByteArray := prog_11_method_2_code
def yX9_thrown : MethodName := ⟨RX9, "thrown", "()I"⟩
abbrev cX9_out : ByteArray := prog_11_method_3_code
def yX9_out : MethodName := ⟨RX9, "out", "(II)Z"⟩
abbrev cX9_fail : ByteArray := prog_11_method_4_code
def yX9_fail : MethodName := ⟨RX9, "fail", "(I)I"⟩
abbrev cX9_signed : ByteArray := prog_11_method_5_code
def yX9_signed : MethodName := ⟨RX9, "signed", "(I)I"⟩
abbrev cX9_bit : ByteArray := prog_11_method_6_code
def yX9_bit : MethodName := ⟨RX9, "bit", "(ZI)I"⟩
abbrev cX9_statusOf : ByteArray := prog_11_method_7_code
def yX9_statusOf : MethodName := ⟨RX9, "statusOf", "(I)I"⟩
abbrev cX9_at : ByteArray := prog_11_method_8_code
def yX9_at : MethodName := ⟨RX9, "at", "(I)I"⟩
abbrev cX9_read : ByteArray := prog_11_method_9_code
def yX9_read : MethodName := ⟨RX9, "read", "(I)I"⟩
abbrev cX9_write : ByteArray := prog_11_method_10_code
def yX9_write : MethodName := ⟨RX9, "write", "(II)V"⟩
abbrev cX9_print : ByteArray := prog_11_method_11_code
def yX9_print : MethodName := ⟨RX9, "print", "(I)V"⟩
abbrev cX9_order : ByteArray := prog_11_method_12_code
def yX9_order : MethodName := ⟨RX9, "order", "(I)V"⟩
abbrev cX9_move : ByteArray := prog_11_method_13_code
def yX9_move : MethodName := ⟨RX9, "move", "()V"⟩
abbrev cX9_mapped : ByteArray := prog_11_method_14_code
def yX9_mapped : MethodName := ⟨RX9, "mapped", "(IIZ)I"⟩
abbrev cX9_wordAt : ByteArray := prog_11_method_15_code
def yX9_wordAt : MethodName := ⟨RX9, "wordAt", "(II)I"⟩
abbrev cX9_setWord : ByteArray := prog_11_method_16_code
def yX9_setWord : MethodName := ⟨RX9, "setWord", "(III)V"⟩
abbrev cX9_byteAt : ByteArray := prog_11_method_17_code
def yX9_byteAt : MethodName := ⟨RX9, "byteAt", "(II)I"⟩
abbrev cX9_setByte : ByteArray := prog_11_method_18_code
def yX9_setByte : MethodName := ⟨RX9, "setByte", "(III)V"⟩
abbrev cX9_settle : ByteArray := prog_11_method_19_code
def yX9_settle : MethodName := ⟨RX9, "settle", "()V"⟩
abbrev cX9_put : ByteArray := prog_11_method_20_code
def yX9_put : MethodName := ⟨RX9, "put", "(II)V"⟩
abbrev cX9_fetch : ByteArray := prog_11_method_21_code
def yX9_fetch : MethodName := ⟨RX9, "fetch", "()I"⟩
abbrev cX9_push : ByteArray := prog_11_method_22_code
def yX9_push : MethodName := ⟨RX9, "push", "(I)V"⟩
abbrev cX9_pop : ByteArray := prog_11_method_23_code
def yX9_pop : MethodName := ⟨RX9, "pop", "()I"⟩
abbrev cX9_find : ByteArray := prog_11_method_24_code
def yX9_find : MethodName := ⟨RX9, "find", "(IZ)I"⟩
abbrev cX9_value : ByteArray := prog_11_method_25_code
def yX9_value : MethodName := ⟨RX9, "value", "(IZ)I"⟩
abbrev cX9_keep : ByteArray := prog_11_method_26_code
def yX9_keep : MethodName := ⟨RX9, "keep", "(IZI)V"⟩
abbrev cX9_isSet : ByteArray := prog_11_method_27_code
def yX9_isSet : MethodName := ⟨RX9, "isSet", "(I)Z"⟩
abbrev cX9_setFlags : ByteArray := prog_11_method_28_code
def yX9_setFlags : MethodName := ⟨RX9, "setFlags", "(ZZZZ)V"⟩
abbrev cX9_show : ByteArray := prog_11_method_29_code
def yX9_show : MethodName := ⟨RX9, "show", "(IZ)V"⟩
abbrev cX9_number : ByteArray := prog_11_method_30_code
def yX9_number : MethodName := ⟨RX9, "number", "(IZ)I"⟩
abbrev cX9_sum : ByteArray := prog_11_method_31_code
def yX9_sum : MethodName := ⟨RX9, "sum", "(IIIZ)I"⟩
abbrev cX9_step : ByteArray := prog_11_method_32_code
def yX9_step : MethodName := ⟨RX9, "step", "()V"⟩
abbrev cX9_two : ByteArray := prog_11_method_33_code
def yX9_two : MethodName := ⟨RX9, "two", "(II)V"⟩
abbrev cX9_extended : ByteArray := prog_11_method_34_code
def yX9_extended : MethodName := ⟨RX9, "extended", "(I)V"⟩
abbrev cX9_multiply : ByteArray := prog_11_method_35_code
def yX9_multiply : MethodName := ⟨RX9, "multiply", "(II)V"⟩
abbrev cX9_rest : ByteArray := prog_11_method_36_code
def yX9_rest : MethodName := ⟨RX9, "rest", "(I)V"⟩
abbrev cX9_branch : ByteArray := prog_11_method_37_code
def yX9_branch : MethodName := ⟨RX9, "branch", "(I)V"⟩
abbrev cX9_call : ByteArray := prog_11_method_38_code
def yX9_call : MethodName := ⟨RX9, "call", "(I)V"⟩
abbrev cX9_small : ByteArray := prog_11_method_39_code
def yX9_small : MethodName := ⟨RX9, "small", "(I)V"⟩
abbrev cX9_special : ByteArray := prog_11_method_40_code
def yX9_special : MethodName := ⟨RX9, "special", "(I)V"⟩
abbrev cX9_comeBack : ByteArray := prog_11_method_41_code
def yX9_comeBack : MethodName := ⟨RX9, "comeBack", "()V"⟩
abbrev cX9_reset : ByteArray := prog_11_method_42_code
def yX9_reset : MethodName := ⟨RX9, "reset", "()V"⟩
abbrev cX9_swap : ByteArray := prog_11_method_43_code
def yX9_swap : MethodName := ⟨RX9, "swap", "(I)V"⟩
abbrev cX9_one : ByteArray := prog_11_method_44_code
def yX9_one : MethodName := ⟨RX9, "one", "(IZ)V"⟩
abbrev cX9_signs : ByteArray := prog_11_method_45_code
def yX9_signs : MethodName := ⟨RX9, "signs", "(I)V"⟩
abbrev cX9_fromBefore : ByteArray := prog_11_method_46_code
def yX9_fromBefore : MethodName := ⟨RX9, "fromBefore", "(I)V"⟩
abbrev cX9_toBefore : ByteArray := prog_11_method_47_code
def yX9_toBefore : MethodName := ⟨RX9, "toBefore", "(I)V"⟩
abbrev cX9_single : ByteArray := prog_11_method_48_code
def yX9_single : MethodName := ⟨RX9, "single", "(IIZ)V"⟩
abbrev cX9_turned : ByteArray := prog_11_method_49_code
def yX9_turned : MethodName := ⟨RX9, "turned", "(IIII)I"⟩
abbrev cX9_trap : ByteArray := prog_11_method_50_code
def yX9_trap : MethodName := ⟨RX9, "trap", "(I)V"⟩
abbrev cX9_goOn : ByteArray := prog_11_method_51_code
def yX9_goOn : MethodName := ⟨RX9, "goOn", "()V"⟩
abbrev cX9_finish : ByteArray := prog_11_method_52_code
def yX9_finish : MethodName := ⟨RX9, "finish", "(I)V"⟩
abbrev cX9_isWord : ByteArray := prog_11_method_53_code
def yX9_isWord : MethodName := ⟨RX9, "isWord", "(I)Z"⟩
abbrev cX9_cell : ByteArray := prog_11_method_54_code
def yX9_cell : MethodName := ⟨RX9, "cell", "(I)Z"⟩
abbrev cX9_deposit : ByteArray := prog_11_method_55_code
def yX9_deposit : MethodName := ⟨RX9, "deposit", "(II)V"⟩
abbrev cX9_examine : ByteArray := prog_11_method_56_code
def yX9_examine : MethodName := ⟨RX9, "examine", "(I)I"⟩
abbrev cX9_set : ByteArray := prog_11_method_57_code
def yX9_set : MethodName := ⟨RX9, "set", "(II)V"⟩
abbrev cX9_register : ByteArray := prog_11_method_58_code
def yX9_register : MethodName := ⟨RX9, "register", "(I)I"⟩
abbrev cX9_start : ByteArray := prog_11_method_59_code
def yX9_start : MethodName := ⟨RX9, "start", "(I)V"⟩
abbrev cX9_run : ByteArray := prog_11_method_60_code
def yX9_run : MethodName := ⟨RX9, "run", "(I)I"⟩
abbrev cX9_key : ByteArray := prog_11_method_61_code
def yX9_key : MethodName := ⟨RX9, "key", "(I)V"⟩
abbrev cX9_printed : ByteArray := prog_11_method_62_code
def yX9_printed : MethodName := ⟨RX9, "printed", "(I)I"⟩
abbrev cX9_load : ByteArray := prog_11_method_63_code
def yX9_load : MethodName := ⟨RX9, "load", "(III)V"⟩
abbrev cX9_disk : ByteArray := prog_11_method_64_code
def yX9_disk : MethodName := ⟨RX9, "disk", "(II)I"⟩
abbrev cX9_device : ByteArray := prog_11_method_65_code
def yX9_device : MethodName := ⟨RX9, "device", "(I)I"⟩
abbrev cX9_state : ByteArray := prog_11_method_66_code
def yX9_state : MethodName := ⟨RX9, "state", "()I"⟩
def RL : String := "UnibusMachineLaw"
abbrev cL_deposit : ByteArray := method_3_code
def yL_deposit : MethodName := ⟨RL, "deposit", "(LUnibusMachine;II)I"⟩
abbrev cL_examine : ByteArray := method_4_code
def yL_examine : MethodName := ⟨RL, "examine", "(LUnibusMachine;I[J)I"⟩
abbrev cL_set : ByteArray := method_5_code
def yL_set : MethodName := ⟨RL, "set", "(LUnibusMachine;II)I"⟩
abbrev cL_register : ByteArray := method_6_code
def yL_register : MethodName := ⟨RL, "register", "(LUnibusMachine;I[J)I"⟩
abbrev cL_start : ByteArray := method_7_code
def yL_start : MethodName := ⟨RL, "start", "(LUnibusMachine;I)I"⟩
abbrev cL_run : ByteArray := method_8_code
def yL_run : MethodName := ⟨RL, "run", "(LUnibusMachine;I[J)I"⟩
abbrev cL_key : ByteArray := method_9_code
def yL_key : MethodName := ⟨RL, "key", "(LUnibusMachine;I)I"⟩
abbrev cL_printed : ByteArray := method_10_code
def yL_printed : MethodName := ⟨RL, "printed", "(LUnibusMachine;I[J)I"⟩
abbrev cL_load : ByteArray := method_11_code
def yL_load : MethodName := ⟨RL, "load", "(LUnibusMachine;III)I"⟩
abbrev cL_disk : ByteArray := method_12_code
def yL_disk : MethodName := ⟨RL, "disk", "(LUnibusMachine;II[J)I"⟩
abbrev cL_law : ByteArray := code
def yL_law : MethodName := ⟨RL, "law", "([I)Z"⟩
def wsX0_peek_r1 : List Cond := [Cond.fieldLink RX0 9 "UnibusMachine$Bus" "memory" "[I", Cond.constant RX0 48 (57344), Cond.constant RX0 49 (57376), Cond.fieldLink RX0 16 "UnibusMachine$Bus" "map" "LUnibusMachine$PageMap;", Cond.fieldLink RX0 50 "UnibusMachine$PageMap" "descriptors" "[I", Cond.constant RX0 53 (57408), Cond.fieldLink RX0 54 "UnibusMachine$PageMap" "bases" "[I", Cond.fieldLink RX0 57 "UnibusMachine$PageMap" "control" "I", Cond.fieldLink RX0 30 "UnibusMachine$Bus" "keyboard" "LUnibusMachine$Keyboard;", Cond.fieldLink RX0 61 "UnibusMachine$Keyboard" "bits" "I", Cond.sameField "UnibusMachine$Keyboard" "UnibusMachine$Line" "bits" "I", Cond.fieldLink RX0 64 "UnibusMachine$Keyboard" "character" "I", Cond.fieldLink RX0 37 "UnibusMachine$Bus" "printer" "LUnibusMachine$Printer;", Cond.fieldLink RX0 67 "UnibusMachine$Printer" "bits" "I", Cond.sameField "UnibusMachine$Printer" "UnibusMachine$Line" "bits" "I", Cond.fieldLink RX0 44 "UnibusMachine$Bus" "drive" "LUnibusMachine$Drive;", Cond.fieldLink RX0 68 "UnibusMachine$Drive" "bits" "I", Cond.sameField "UnibusMachine$Drive" "UnibusMachine$Line" "bits" "I", Cond.fieldLink RX0 69 "UnibusMachine$Drive" "writing" "I", Cond.fieldLink RX0 72 "UnibusMachine$Drive" "wrong" "I", Cond.fieldLink RX0 75 "UnibusMachine$Drive" "count" "I", Cond.fieldLink RX0 78 "UnibusMachine$Drive" "address" "I", Cond.fieldLink RX0 81 "UnibusMachine$Drive" "sector" "I", Cond.fieldLink RX0 23 "UnibusMachine$Bus" "status" "LUnibusMachine$Status;"]
def wsX0_peek_r2 : List Cond := [Cond.fieldLink RX0 84 "UnibusMachine$Status" "now" "I"]
def wsX0_peek : List Cond := .code yX0_peek cX0_peek 2 (some .int) :: ((wsX0_peek_r1 ++ wsX0_peek_r2) ++ wsX00 ++ wsX40 ++ wsX10 ++ wsX20 ++ wsX50 ++ wsX70)
def wsX0_read_r1 : List Cond := [Cond.constant RX0 91 (57426), Cond.fieldLink RX0 30 "UnibusMachine$Bus" "keyboard" "LUnibusMachine$Keyboard;", Cond.fieldLink RX0 61 "UnibusMachine$Keyboard" "bits" "I", Cond.sameField "UnibusMachine$Keyboard" "UnibusMachine$Line" "bits" "I", Cond.methodLink RX0 87 yX0_peek, Cond.instanceMethod yX0_peek, Cond.selects RX0 yX0_peek yX0_peek, Cond.initialized RX0, Cond.code yX0_peek cX0_peek 2 (some .int), Cond.fieldLink RX0 9 "UnibusMachine$Bus" "memory" "[I", Cond.constant RX0 48 (57344), Cond.constant RX0 49 (57376), Cond.fieldLink RX0 16 "UnibusMachine$Bus" "map" "LUnibusMachine$PageMap;", Cond.fieldLink RX0 50 "UnibusMachine$PageMap" "descriptors" "[I", Cond.constant RX0 53 (57408), Cond.fieldLink RX0 54 "UnibusMachine$PageMap" "bases" "[I", Cond.fieldLink RX0 57 "UnibusMachine$PageMap" "control" "I", Cond.fieldLink RX0 64 "UnibusMachine$Keyboard" "character" "I", Cond.fieldLink RX0 37 "UnibusMachine$Bus" "printer" "LUnibusMachine$Printer;", Cond.fieldLink RX0 67 "UnibusMachine$Printer" "bits" "I", Cond.sameField "UnibusMachine$Printer" "UnibusMachine$Line" "bits" "I", Cond.fieldLink RX0 44 "UnibusMachine$Bus" "drive" "LUnibusMachine$Drive;", Cond.fieldLink RX0 68 "UnibusMachine$Drive" "bits" "I", Cond.sameField "UnibusMachine$Drive" "UnibusMachine$Line" "bits" "I"]
def wsX0_read_r2 : List Cond := [Cond.fieldLink RX0 69 "UnibusMachine$Drive" "writing" "I", Cond.fieldLink RX0 72 "UnibusMachine$Drive" "wrong" "I", Cond.fieldLink RX0 75 "UnibusMachine$Drive" "count" "I", Cond.fieldLink RX0 78 "UnibusMachine$Drive" "address" "I", Cond.fieldLink RX0 81 "UnibusMachine$Drive" "sector" "I", Cond.fieldLink RX0 23 "UnibusMachine$Bus" "status" "LUnibusMachine$Status;", Cond.fieldLink RX0 84 "UnibusMachine$Status" "now" "I", Cond.methodLink RX0 94 ⟨"UnibusMachine$Keyboard", "become", "(I)V"⟩, Cond.sameMethod "UnibusMachine$Keyboard" "UnibusMachine$Line" "become" "(I)V", Cond.selects RX2 ⟨"UnibusMachine$Keyboard", "become", "(I)V"⟩ yX3_become, Cond.instanceMethod yX3_become, Cond.initialized RX3, Cond.code yX3_become cX3_become 2 none, Cond.fieldLink RX3 13 "UnibusMachine$Line" "wanting" "Z", Cond.fieldLink RX3 9 "UnibusMachine$Line" "bits" "I"]
def wsX0_read : List Cond := .code yX0_read cX0_read 3 (some .int) :: ((wsX0_read_r1 ++ wsX0_read_r2) ++ wsX00 ++ wsX10 ++ wsX20 ++ wsX50 ++ wsX40 ++ wsX70)
def wsX0_write_r1 : List Cond := [Cond.fieldLink RX0 9 "UnibusMachine$Bus" "memory" "[I", Cond.constant RX0 48 (57344), Cond.constant RX0 49 (57376), Cond.fieldLink RX0 16 "UnibusMachine$Bus" "map" "LUnibusMachine$PageMap;", Cond.fieldLink RX0 50 "UnibusMachine$PageMap" "descriptors" "[I", Cond.constant RX0 53 (57408), Cond.fieldLink RX0 54 "UnibusMachine$PageMap" "bases" "[I", Cond.constant RX0 98 (57375), Cond.fieldLink RX0 57 "UnibusMachine$PageMap" "control" "I", Cond.fieldLink RX0 30 "UnibusMachine$Bus" "keyboard" "LUnibusMachine$Keyboard;", Cond.fieldLink RX0 61 "UnibusMachine$Keyboard" "bits" "I", Cond.sameField "UnibusMachine$Keyboard" "UnibusMachine$Line" "bits" "I", Cond.fieldLink RX0 37 "UnibusMachine$Bus" "printer" "LUnibusMachine$Printer;", Cond.fieldLink RX0 67 "UnibusMachine$Printer" "bits" "I", Cond.sameField "UnibusMachine$Printer" "UnibusMachine$Line" "bits" "I", Cond.fieldLink RX0 44 "UnibusMachine$Bus" "drive" "LUnibusMachine$Drive;", Cond.fieldLink RX0 69 "UnibusMachine$Drive" "writing" "I", Cond.fieldLink RX0 68 "UnibusMachine$Drive" "bits" "I", Cond.sameField "UnibusMachine$Drive" "UnibusMachine$Line" "bits" "I", Cond.fieldLink RX0 75 "UnibusMachine$Drive" "count" "I", Cond.fieldLink RX0 78 "UnibusMachine$Drive" "address" "I", Cond.fieldLink RX0 81 "UnibusMachine$Drive" "sector" "I", Cond.fieldLink RX0 23 "UnibusMachine$Bus" "status" "LUnibusMachine$Status;", Cond.fieldLink RX0 105 "UnibusMachine$Status" "written" "I"]
def wsX0_write_r2 : List Cond := [Cond.methodLink RX0 94 ⟨"UnibusMachine$Keyboard", "become", "(I)V"⟩, Cond.sameMethod "UnibusMachine$Keyboard" "UnibusMachine$Line" "become" "(I)V", Cond.selects RX2 ⟨"UnibusMachine$Keyboard", "become", "(I)V"⟩ yX3_become, Cond.instanceMethod yX3_become, Cond.initialized RX3, Cond.code yX3_become cX3_become 2 none, Cond.fieldLink RX3 13 "UnibusMachine$Line" "wanting" "Z", Cond.fieldLink RX3 9 "UnibusMachine$Line" "bits" "I", Cond.methodLink RX0 99 ⟨"UnibusMachine$Printer", "become", "(I)V"⟩, Cond.sameMethod "UnibusMachine$Printer" "UnibusMachine$Line" "become" "(I)V", Cond.selects RX5 ⟨"UnibusMachine$Printer", "become", "(I)V"⟩ yX3_become, Cond.methodLink RX0 100 yX5_begin, Cond.instanceMethod yX5_begin, Cond.selects RX5 yX5_begin yX5_begin, Cond.initialized RX5, Cond.code yX5_begin cX5_begin 2 none, Cond.fieldLink RX5 17 "UnibusMachine$Printer" "character" "I", Cond.fieldLink RX5 20 "UnibusMachine$Printer" "left" "I", Cond.fieldLink RX5 23 "UnibusMachine$Printer" "fresh" "Z", Cond.fieldLink RX5 27 "UnibusMachine$Printer" "bits" "I", Cond.fieldLink RX5 30 "UnibusMachine$Printer" "wanting" "Z", Cond.sameField "UnibusMachine$Printer" "UnibusMachine$Line" "wanting" "Z", Cond.methodLink RX0 103 yX1_begin, Cond.instanceMethod yX1_begin]
def wsX0_write_r3 : List Cond := [Cond.selects RX1 yX1_begin yX1_begin, Cond.initialized RX1, Cond.code yX1_begin cX1_begin 2 none, Cond.fieldLink RX1 29 "UnibusMachine$Drive" "left" "I", Cond.fieldLink RX1 32 "UnibusMachine$Drive" "fresh" "Z", Cond.fieldLink RX1 17 "UnibusMachine$Drive" "wrong" "I", Cond.fieldLink RX1 36 "UnibusMachine$Drive" "bits" "I", Cond.fieldLink RX1 39 "UnibusMachine$Drive" "wanting" "Z", Cond.sameField "UnibusMachine$Drive" "UnibusMachine$Line" "wanting" "Z", Cond.methodLink RX0 104 ⟨"UnibusMachine$Drive", "become", "(I)V"⟩, Cond.sameMethod "UnibusMachine$Drive" "UnibusMachine$Line" "become" "(I)V", Cond.selects RX1 ⟨"UnibusMachine$Drive", "become", "(I)V"⟩ yX3_become]
def wsX0_write : List Cond := .code yX0_write cX0_write 3 (some .boolean) :: ((wsX0_write_r1 ++ (wsX0_write_r2 ++ wsX0_write_r3)) ++ wsX00 ++ wsX40 ++ wsX10 ++ wsX20 ++ wsX50 ++ wsX70)
def wsX0_nextInstruction : List Cond := .code yX0_nextInstruction cX0_nextInstruction 1 none :: ([.fieldLink RX0 37 "UnibusMachine$Bus" "printer" "LUnibusMachine$Printer;", .fieldLink RX0 108 "UnibusMachine$Printer" "fresh" "Z", .fieldLink RX0 44 "UnibusMachine$Bus" "drive" "LUnibusMachine$Drive;", .fieldLink RX0 112 "UnibusMachine$Drive" "fresh" "Z"] ++ wsX00 ++ wsX50 ++ wsX10)
def wsX5_goOn : List Cond := .code yX5_goOn cX5_goOn 1 none :: ([.fieldLink RX5 20 "UnibusMachine$Printer" "left" "I", .fieldLink RX5 23 "UnibusMachine$Printer" "fresh" "Z", .fieldLink RX5 9 "UnibusMachine$Printer" "paper" "[I", .fieldLink RX5 13 "UnibusMachine$Printer" "count" "I", .fieldLink RX5 17 "UnibusMachine$Printer" "character" "I", .fieldLink RX5 27 "UnibusMachine$Printer" "bits" "I", .sameField "UnibusMachine$Printer" "UnibusMachine$Line" "bits" "I", .methodLink RX5 33 ⟨"UnibusMachine$Printer", "become", "(I)V"⟩, .sameMethod "UnibusMachine$Printer" "UnibusMachine$Line" "become" "(I)V", .selects RX5 ⟨"UnibusMachine$Printer", "become", "(I)V"⟩ yX3_become, .instanceMethod yX3_become, .initialized RX3, .code yX3_become cX3_become 2 none, .fieldLink RX3 13 "UnibusMachine$Line" "wanting" "Z", .fieldLink RX3 9 "UnibusMachine$Line" "bits" "I"] ++ wsX50 ++ wsX10 ++ wsX20)
def wsX1_goOn : List Cond := .code yX1_goOn cX1_goOn 2 none :: ([.fieldLink RX1 29 "UnibusMachine$Drive" "left" "I", .fieldLink RX1 32 "UnibusMachine$Drive" "fresh" "Z", .fieldLink RX1 36 "UnibusMachine$Drive" "bits" "I", .sameField "UnibusMachine$Drive" "UnibusMachine$Line" "bits" "I", .methodLink RX1 42 yX1_transfer, .instanceMethod yX1_transfer, .selects RX1 yX1_transfer yX1_transfer, .initialized RX1, .code yX1_transfer cX1_transfer 5 none, .fieldLink RX1 20 "UnibusMachine$Drive" "count" "I", .fieldLink RX1 23 "UnibusMachine$Drive" "address" "I", .constant RX1 52 (32768), .fieldLink RX1 17 "UnibusMachine$Drive" "wrong" "I", .fieldLink RX1 26 "UnibusMachine$Drive" "sector" "I", .fieldLink RX1 13 "UnibusMachine$Drive" "writing" "I", .fieldLink RX1 9 "UnibusMachine$Drive" "words" "[I", .methodLink RX1 46 ⟨"UnibusMachine$Drive", "become", "(I)V"⟩, .sameMethod "UnibusMachine$Drive" "UnibusMachine$Line" "become" "(I)V", .selects RX1 ⟨"UnibusMachine$Drive", "become", "(I)V"⟩ yX3_become, .instanceMethod yX3_become, .initialized RX3, .code yX3_become cX3_become 2 none, .fieldLink RX3 13 "UnibusMachine$Line" "wanting" "Z", .fieldLink RX3 9 "UnibusMachine$Line" "bits" "I"] ++ wsX10 ++ wsX20 ++ wsX50)
def wsX0_goOn_r1 : List Cond := [Cond.fieldLink RX0 37 "UnibusMachine$Bus" "printer" "LUnibusMachine$Printer;", Cond.fieldLink RX0 44 "UnibusMachine$Bus" "drive" "LUnibusMachine$Drive;", Cond.fieldLink RX0 9 "UnibusMachine$Bus" "memory" "[I", Cond.methodLink RX0 113 yX5_goOn, Cond.instanceMethod yX5_goOn, Cond.selects RX5 yX5_goOn yX5_goOn, Cond.initialized RX5, Cond.code yX5_goOn cX5_goOn 1 none, Cond.fieldLink RX5 20 "UnibusMachine$Printer" "left" "I", Cond.fieldLink RX5 23 "UnibusMachine$Printer" "fresh" "Z", Cond.fieldLink RX5 9 "UnibusMachine$Printer" "paper" "[I", Cond.fieldLink RX5 13 "UnibusMachine$Printer" "count" "I", Cond.fieldLink RX5 17 "UnibusMachine$Printer" "character" "I", Cond.fieldLink RX5 27 "UnibusMachine$Printer" "bits" "I", Cond.sameField "UnibusMachine$Printer" "UnibusMachine$Line" "bits" "I", Cond.methodLink RX5 33 ⟨"UnibusMachine$Printer", "become", "(I)V"⟩, Cond.sameMethod "UnibusMachine$Printer" "UnibusMachine$Line" "become" "(I)V", Cond.selects RX5 ⟨"UnibusMachine$Printer", "become", "(I)V"⟩ yX3_become, Cond.instanceMethod yX3_become, Cond.initialized RX3, Cond.code yX3_become cX3_become 2 none, Cond.fieldLink RX3 13 "UnibusMachine$Line" "wanting" "Z", Cond.fieldLink RX3 9 "UnibusMachine$Line" "bits" "I", Cond.methodLink RX0 116 yX1_goOn]
def wsX0_goOn_r2 : List Cond := [Cond.instanceMethod yX1_goOn, Cond.selects RX1 yX1_goOn yX1_goOn, Cond.initialized RX1, Cond.code yX1_goOn cX1_goOn 2 none, Cond.fieldLink RX1 29 "UnibusMachine$Drive" "left" "I", Cond.fieldLink RX1 32 "UnibusMachine$Drive" "fresh" "Z", Cond.fieldLink RX1 36 "UnibusMachine$Drive" "bits" "I", Cond.sameField "UnibusMachine$Drive" "UnibusMachine$Line" "bits" "I", Cond.methodLink RX1 42 yX1_transfer, Cond.instanceMethod yX1_transfer, Cond.selects RX1 yX1_transfer yX1_transfer, Cond.code yX1_transfer cX1_transfer 5 none, Cond.fieldLink RX1 20 "UnibusMachine$Drive" "count" "I", Cond.fieldLink RX1 23 "UnibusMachine$Drive" "address" "I", Cond.constant RX1 52 (32768), Cond.fieldLink RX1 17 "UnibusMachine$Drive" "wrong" "I", Cond.fieldLink RX1 26 "UnibusMachine$Drive" "sector" "I", Cond.fieldLink RX1 13 "UnibusMachine$Drive" "writing" "I", Cond.fieldLink RX1 9 "UnibusMachine$Drive" "words" "[I", Cond.methodLink RX1 46 ⟨"UnibusMachine$Drive", "become", "(I)V"⟩, Cond.sameMethod "UnibusMachine$Drive" "UnibusMachine$Line" "become" "(I)V", Cond.selects RX1 ⟨"UnibusMachine$Drive", "become", "(I)V"⟩ yX3_become]
def wsX0_goOn : List Cond := .code yX0_goOn cX0_goOn 1 none :: ((wsX0_goOn_r1 ++ wsX0_goOn_r2) ++ wsX00 ++ wsX50 ++ wsX10 ++ wsX20)
def wsX4_locate : List Cond := .code yX4_locate cX4_locate 9 (some .int) :: ([.fieldLink RX4 16 "UnibusMachine$PageMap" "control" "I", .fieldLink RX4 9 "UnibusMachine$PageMap" "descriptors" "[I", .constant RX4 20 (32768), .fieldLink RX4 13 "UnibusMachine$PageMap" "bases" "[I", .constant RX4 21 (65535), .constant RX4 22 (57344)] ++ wsX40)
def wsX6_mode : List Cond := .code yX6_mode cX6_mode 1 (some .int) :: ([.fieldLink RX6 43 "UnibusMachine$Processor" "status" "LUnibusMachine$Status;", .fieldLink RX6 44 "UnibusMachine$Status" "now" "I"] ++ wsX60 ++ wsX70)
def wsX6_takeStatus : List Cond := .code yX6_takeStatus cX6_takeStatus 3 none :: ([.fieldLink RX6 43 "UnibusMachine$Processor" "status" "LUnibusMachine$Status;", .fieldLink RX6 44 "UnibusMachine$Status" "now" "I", .fieldLink RX6 7 "UnibusMachine$Processor" "registers" "[I", .fieldLink RX6 13 "UnibusMachine$Processor" "otherStack" "I"] ++ wsX60 ++ wsX70)
def wsX6_stop : List Cond := .code yX6_stop cX6_stop 2 none :: ([.classLink RX6 65 "java/lang/UnsupportedOperationException", .initialized "java/lang/UnsupportedOperationException", .fieldLink RX6 24 "UnibusMachine$Processor" "vector" "I"] ++ wsX60 ++ (vx_at0 RX6 111 "java/lang/UnsupportedOperationException" ["java/lang/RuntimeException", "java/lang/Exception"]).filter goodWord)
def wsX6_place : List Cond := .code yX6_place cX6_place 5 (some .int) :: ([.fieldLink RX6 33 "UnibusMachine$Processor" "bus" "LUnibusMachine$Bus;", .fieldLink RX6 132 "UnibusMachine$Bus" "map" "LUnibusMachine$PageMap;", .methodLink RX6 136 yX4_locate, .instanceMethod yX4_locate, .selects RX4 yX4_locate yX4_locate, .initialized RX4, .code yX4_locate cX4_locate 9 (some .int), .fieldLink RX4 16 "UnibusMachine$PageMap" "control" "I", .fieldLink RX4 9 "UnibusMachine$PageMap" "descriptors" "[I", .constant RX4 20 (32768), .fieldLink RX4 13 "UnibusMachine$PageMap" "bases" "[I", .constant RX4 21 (65535), .constant RX4 22 (57344), .methodLink RX6 112 yX6_stop, .instanceMethod yX6_stop, .selects RX6 yX6_stop yX6_stop, .initialized RX6, .code yX6_stop cX6_stop 2 none, .classLink RX6 65 "java/lang/UnsupportedOperationException", .initialized "java/lang/UnsupportedOperationException", .fieldLink RX6 24 "UnibusMachine$Processor" "vector" "I"] ++ wsX60 ++ wsX00 ++ wsX40 ++ (vx_at0 RX6 111 "java/lang/UnsupportedOperationException" ["java/lang/RuntimeException", "java/lang/Exception"]).filter goodWord)
def wsX6_readWord_r1 : List Cond := [Cond.fieldLink RX6 33 "UnibusMachine$Processor" "bus" "LUnibusMachine$Bus;", Cond.methodLink RX6 112 yX6_stop, Cond.instanceMethod yX6_stop, Cond.selects RX6 yX6_stop yX6_stop, Cond.initialized RX6, Cond.code yX6_stop cX6_stop 2 none, Cond.classLink RX6 65 "java/lang/UnsupportedOperationException", Cond.initialized "java/lang/UnsupportedOperationException", Cond.fieldLink RX6 24 "UnibusMachine$Processor" "vector" "I", Cond.methodLink RX6 115 yX6_place, Cond.instanceMethod yX6_place, Cond.selects RX6 yX6_place yX6_place, Cond.code yX6_place cX6_place 5 (some .int), Cond.fieldLink RX6 132 "UnibusMachine$Bus" "map" "LUnibusMachine$PageMap;", Cond.methodLink RX6 136 yX4_locate, Cond.instanceMethod yX4_locate, Cond.selects RX4 yX4_locate yX4_locate, Cond.initialized RX4, Cond.code yX4_locate cX4_locate 9 (some .int), Cond.fieldLink RX4 16 "UnibusMachine$PageMap" "control" "I", Cond.fieldLink RX4 9 "UnibusMachine$PageMap" "descriptors" "[I", Cond.constant RX4 20 (32768), Cond.fieldLink RX4 13 "UnibusMachine$PageMap" "bases" "[I", Cond.constant RX4 21 (65535)]
def wsX6_readWord_r2 : List Cond := [Cond.constant RX4 22 (57344), Cond.methodLink RX6 119 yX0_read, Cond.instanceMethod yX0_read, Cond.selects RX0 yX0_read yX0_read, Cond.initialized RX0, Cond.code yX0_read cX0_read 3 (some .int), Cond.constant RX0 91 (57426), Cond.fieldLink RX0 30 "UnibusMachine$Bus" "keyboard" "LUnibusMachine$Keyboard;", Cond.fieldLink RX0 61 "UnibusMachine$Keyboard" "bits" "I", Cond.sameField "UnibusMachine$Keyboard" "UnibusMachine$Line" "bits" "I", Cond.methodLink RX0 87 yX0_peek, Cond.instanceMethod yX0_peek, Cond.selects RX0 yX0_peek yX0_peek, Cond.code yX0_peek cX0_peek 2 (some .int), Cond.fieldLink RX0 9 "UnibusMachine$Bus" "memory" "[I", Cond.constant RX0 48 (57344), Cond.constant RX0 49 (57376), Cond.fieldLink RX0 16 "UnibusMachine$Bus" "map" "LUnibusMachine$PageMap;", Cond.fieldLink RX0 50 "UnibusMachine$PageMap" "descriptors" "[I", Cond.constant RX0 53 (57408), Cond.fieldLink RX0 54 "UnibusMachine$PageMap" "bases" "[I", Cond.fieldLink RX0 57 "UnibusMachine$PageMap" "control" "I", Cond.fieldLink RX0 64 "UnibusMachine$Keyboard" "character" "I", Cond.fieldLink RX0 37 "UnibusMachine$Bus" "printer" "LUnibusMachine$Printer;"]
def wsX6_readWord_r3 : List Cond := [Cond.fieldLink RX0 67 "UnibusMachine$Printer" "bits" "I", Cond.sameField "UnibusMachine$Printer" "UnibusMachine$Line" "bits" "I", Cond.fieldLink RX0 44 "UnibusMachine$Bus" "drive" "LUnibusMachine$Drive;", Cond.fieldLink RX0 68 "UnibusMachine$Drive" "bits" "I", Cond.sameField "UnibusMachine$Drive" "UnibusMachine$Line" "bits" "I", Cond.fieldLink RX0 69 "UnibusMachine$Drive" "writing" "I", Cond.fieldLink RX0 72 "UnibusMachine$Drive" "wrong" "I", Cond.fieldLink RX0 75 "UnibusMachine$Drive" "count" "I", Cond.fieldLink RX0 78 "UnibusMachine$Drive" "address" "I", Cond.fieldLink RX0 81 "UnibusMachine$Drive" "sector" "I", Cond.fieldLink RX0 23 "UnibusMachine$Bus" "status" "LUnibusMachine$Status;", Cond.fieldLink RX0 84 "UnibusMachine$Status" "now" "I", Cond.methodLink RX0 94 ⟨"UnibusMachine$Keyboard", "become", "(I)V"⟩, Cond.sameMethod "UnibusMachine$Keyboard" "UnibusMachine$Line" "become" "(I)V", Cond.selects RX2 ⟨"UnibusMachine$Keyboard", "become", "(I)V"⟩ yX3_become, Cond.instanceMethod yX3_become, Cond.initialized RX3, Cond.code yX3_become cX3_become 2 none, Cond.fieldLink RX3 13 "UnibusMachine$Line" "wanting" "Z", Cond.fieldLink RX3 9 "UnibusMachine$Line" "bits" "I"]
def wsX6_readWord : List Cond := .code yX6_readWord cX6_readWord 4 (some .int) :: ((wsX6_readWord_r1 ++ (wsX6_readWord_r2 ++ wsX6_readWord_r3)) ++ wsX60 ++ wsX00 ++ wsX40 ++ wsX10 ++ wsX20 ++ wsX50 ++ wsX70 ++ (vx_at0 RX6 111 "java/lang/UnsupportedOperationException" ["java/lang/RuntimeException", "java/lang/Exception"]).filter goodWord)
def wsX6_fall : List Cond := .code yX6_fall cX6_fall 3 (some .int) :: ([.fieldLink RX6 7 "UnibusMachine$Processor" "registers" "[I", .constant RX6 60 (65535)] ++ wsX60)
def wsX6_writeWord_r1 : List Cond := [Cond.fieldLink RX6 33 "UnibusMachine$Processor" "bus" "LUnibusMachine$Bus;", Cond.methodLink RX6 112 yX6_stop, Cond.instanceMethod yX6_stop, Cond.selects RX6 yX6_stop yX6_stop, Cond.initialized RX6, Cond.code yX6_stop cX6_stop 2 none, Cond.classLink RX6 65 "java/lang/UnsupportedOperationException", Cond.initialized "java/lang/UnsupportedOperationException", Cond.fieldLink RX6 24 "UnibusMachine$Processor" "vector" "I", Cond.methodLink RX6 115 yX6_place, Cond.instanceMethod yX6_place, Cond.selects RX6 yX6_place yX6_place, Cond.code yX6_place cX6_place 5 (some .int), Cond.fieldLink RX6 132 "UnibusMachine$Bus" "map" "LUnibusMachine$PageMap;", Cond.methodLink RX6 136 yX4_locate, Cond.instanceMethod yX4_locate, Cond.selects RX4 yX4_locate yX4_locate, Cond.initialized RX4, Cond.code yX4_locate cX4_locate 9 (some .int), Cond.fieldLink RX4 16 "UnibusMachine$PageMap" "control" "I", Cond.fieldLink RX4 9 "UnibusMachine$PageMap" "descriptors" "[I", Cond.constant RX4 20 (32768), Cond.fieldLink RX4 13 "UnibusMachine$PageMap" "bases" "[I", Cond.constant RX4 21 (65535)]
def wsX6_writeWord_r2 : List Cond := [Cond.constant RX4 22 (57344), Cond.methodLink RX6 123 yX0_write, Cond.instanceMethod yX0_write, Cond.selects RX0 yX0_write yX0_write, Cond.initialized RX0, Cond.code yX0_write cX0_write 3 (some .boolean), Cond.fieldLink RX0 9 "UnibusMachine$Bus" "memory" "[I", Cond.constant RX0 48 (57344), Cond.constant RX0 49 (57376), Cond.fieldLink RX0 16 "UnibusMachine$Bus" "map" "LUnibusMachine$PageMap;", Cond.fieldLink RX0 50 "UnibusMachine$PageMap" "descriptors" "[I", Cond.constant RX0 53 (57408), Cond.fieldLink RX0 54 "UnibusMachine$PageMap" "bases" "[I", Cond.constant RX0 98 (57375), Cond.fieldLink RX0 57 "UnibusMachine$PageMap" "control" "I", Cond.fieldLink RX0 30 "UnibusMachine$Bus" "keyboard" "LUnibusMachine$Keyboard;", Cond.fieldLink RX0 61 "UnibusMachine$Keyboard" "bits" "I", Cond.sameField "UnibusMachine$Keyboard" "UnibusMachine$Line" "bits" "I", Cond.fieldLink RX0 37 "UnibusMachine$Bus" "printer" "LUnibusMachine$Printer;", Cond.fieldLink RX0 67 "UnibusMachine$Printer" "bits" "I", Cond.sameField "UnibusMachine$Printer" "UnibusMachine$Line" "bits" "I", Cond.fieldLink RX0 44 "UnibusMachine$Bus" "drive" "LUnibusMachine$Drive;", Cond.fieldLink RX0 69 "UnibusMachine$Drive" "writing" "I", Cond.fieldLink RX0 68 "UnibusMachine$Drive" "bits" "I"]
def wsX6_writeWord_r3 : List Cond := [Cond.sameField "UnibusMachine$Drive" "UnibusMachine$Line" "bits" "I", Cond.fieldLink RX0 75 "UnibusMachine$Drive" "count" "I", Cond.fieldLink RX0 78 "UnibusMachine$Drive" "address" "I", Cond.fieldLink RX0 81 "UnibusMachine$Drive" "sector" "I", Cond.fieldLink RX0 23 "UnibusMachine$Bus" "status" "LUnibusMachine$Status;", Cond.fieldLink RX0 105 "UnibusMachine$Status" "written" "I", Cond.methodLink RX0 94 ⟨"UnibusMachine$Keyboard", "become", "(I)V"⟩, Cond.sameMethod "UnibusMachine$Keyboard" "UnibusMachine$Line" "become" "(I)V", Cond.selects RX2 ⟨"UnibusMachine$Keyboard", "become", "(I)V"⟩ yX3_become, Cond.instanceMethod yX3_become, Cond.initialized RX3, Cond.code yX3_become cX3_become 2 none, Cond.fieldLink RX3 13 "UnibusMachine$Line" "wanting" "Z", Cond.fieldLink RX3 9 "UnibusMachine$Line" "bits" "I", Cond.methodLink RX0 99 ⟨"UnibusMachine$Printer", "become", "(I)V"⟩, Cond.sameMethod "UnibusMachine$Printer" "UnibusMachine$Line" "become" "(I)V", Cond.selects RX5 ⟨"UnibusMachine$Printer", "become", "(I)V"⟩ yX3_become, Cond.methodLink RX0 100 yX5_begin, Cond.instanceMethod yX5_begin, Cond.selects RX5 yX5_begin yX5_begin, Cond.initialized RX5, Cond.code yX5_begin cX5_begin 2 none, Cond.fieldLink RX5 17 "UnibusMachine$Printer" "character" "I", Cond.fieldLink RX5 20 "UnibusMachine$Printer" "left" "I"]
def wsX6_writeWord_r4 : List Cond := [Cond.fieldLink RX5 23 "UnibusMachine$Printer" "fresh" "Z", Cond.fieldLink RX5 27 "UnibusMachine$Printer" "bits" "I", Cond.fieldLink RX5 30 "UnibusMachine$Printer" "wanting" "Z", Cond.sameField "UnibusMachine$Printer" "UnibusMachine$Line" "wanting" "Z", Cond.methodLink RX0 103 yX1_begin, Cond.instanceMethod yX1_begin, Cond.selects RX1 yX1_begin yX1_begin, Cond.initialized RX1, Cond.code yX1_begin cX1_begin 2 none, Cond.fieldLink RX1 29 "UnibusMachine$Drive" "left" "I", Cond.fieldLink RX1 32 "UnibusMachine$Drive" "fresh" "Z", Cond.fieldLink RX1 17 "UnibusMachine$Drive" "wrong" "I", Cond.fieldLink RX1 36 "UnibusMachine$Drive" "bits" "I", Cond.fieldLink RX1 39 "UnibusMachine$Drive" "wanting" "Z", Cond.sameField "UnibusMachine$Drive" "UnibusMachine$Line" "wanting" "Z", Cond.methodLink RX0 104 ⟨"UnibusMachine$Drive", "become", "(I)V"⟩, Cond.sameMethod "UnibusMachine$Drive" "UnibusMachine$Line" "become" "(I)V", Cond.selects RX1 ⟨"UnibusMachine$Drive", "become", "(I)V"⟩ yX3_become]
def wsX6_writeWord : List Cond := .code yX6_writeWord cX6_writeWord 4 none :: ((wsX6_writeWord_r1 ++ (wsX6_writeWord_r2 ++ (wsX6_writeWord_r3 ++ wsX6_writeWord_r4))) ++ wsX60 ++ wsX00 ++ wsX40 ++ wsX10 ++ wsX20 ++ wsX50 ++ wsX70 ++ (vx_at0 RX6 111 "java/lang/UnsupportedOperationException" ["java/lang/RuntimeException", "java/lang/Exception"]).filter goodWord)
def wsX6_push_r1 : List Cond := [Cond.methodLink RX6 52 yX6_mode, Cond.instanceMethod yX6_mode, Cond.selects RX6 yX6_mode yX6_mode, Cond.initialized RX6, Cond.code yX6_mode cX6_mode 1 (some .int), Cond.fieldLink RX6 43 "UnibusMachine$Processor" "status" "LUnibusMachine$Status;", Cond.fieldLink RX6 44 "UnibusMachine$Status" "now" "I", Cond.methodLink RX6 141 yX6_fall, Cond.instanceMethod yX6_fall, Cond.selects RX6 yX6_fall yX6_fall, Cond.code yX6_fall cX6_fall 3 (some .int), Cond.fieldLink RX6 7 "UnibusMachine$Processor" "registers" "[I", Cond.constant RX6 60 (65535), Cond.methodLink RX6 144 yX6_writeWord, Cond.instanceMethod yX6_writeWord, Cond.selects RX6 yX6_writeWord yX6_writeWord, Cond.code yX6_writeWord cX6_writeWord 4 none, Cond.fieldLink RX6 33 "UnibusMachine$Processor" "bus" "LUnibusMachine$Bus;", Cond.methodLink RX6 112 yX6_stop, Cond.instanceMethod yX6_stop, Cond.selects RX6 yX6_stop yX6_stop, Cond.code yX6_stop cX6_stop 2 none, Cond.classLink RX6 65 "java/lang/UnsupportedOperationException", Cond.initialized "java/lang/UnsupportedOperationException"]
def wsX6_push_r2 : List Cond := [Cond.fieldLink RX6 24 "UnibusMachine$Processor" "vector" "I", Cond.methodLink RX6 115 yX6_place, Cond.instanceMethod yX6_place, Cond.selects RX6 yX6_place yX6_place, Cond.code yX6_place cX6_place 5 (some .int), Cond.fieldLink RX6 132 "UnibusMachine$Bus" "map" "LUnibusMachine$PageMap;", Cond.methodLink RX6 136 yX4_locate, Cond.instanceMethod yX4_locate, Cond.selects RX4 yX4_locate yX4_locate, Cond.initialized RX4, Cond.code yX4_locate cX4_locate 9 (some .int), Cond.fieldLink RX4 16 "UnibusMachine$PageMap" "control" "I", Cond.fieldLink RX4 9 "UnibusMachine$PageMap" "descriptors" "[I", Cond.constant RX4 20 (32768), Cond.fieldLink RX4 13 "UnibusMachine$PageMap" "bases" "[I", Cond.constant RX4 21 (65535), Cond.constant RX4 22 (57344), Cond.methodLink RX6 123 yX0_write, Cond.instanceMethod yX0_write, Cond.selects RX0 yX0_write yX0_write, Cond.initialized RX0, Cond.code yX0_write cX0_write 3 (some .boolean), Cond.fieldLink RX0 9 "UnibusMachine$Bus" "memory" "[I", Cond.constant RX0 48 (57344)]
def wsX6_push_r3 : List Cond := [Cond.constant RX0 49 (57376), Cond.fieldLink RX0 16 "UnibusMachine$Bus" "map" "LUnibusMachine$PageMap;", Cond.fieldLink RX0 50 "UnibusMachine$PageMap" "descriptors" "[I", Cond.constant RX0 53 (57408), Cond.fieldLink RX0 54 "UnibusMachine$PageMap" "bases" "[I", Cond.constant RX0 98 (57375), Cond.fieldLink RX0 57 "UnibusMachine$PageMap" "control" "I", Cond.fieldLink RX0 30 "UnibusMachine$Bus" "keyboard" "LUnibusMachine$Keyboard;", Cond.fieldLink RX0 61 "UnibusMachine$Keyboard" "bits" "I", Cond.sameField "UnibusMachine$Keyboard" "UnibusMachine$Line" "bits" "I", Cond.fieldLink RX0 37 "UnibusMachine$Bus" "printer" "LUnibusMachine$Printer;", Cond.fieldLink RX0 67 "UnibusMachine$Printer" "bits" "I", Cond.sameField "UnibusMachine$Printer" "UnibusMachine$Line" "bits" "I", Cond.fieldLink RX0 44 "UnibusMachine$Bus" "drive" "LUnibusMachine$Drive;", Cond.fieldLink RX0 69 "UnibusMachine$Drive" "writing" "I", Cond.fieldLink RX0 68 "UnibusMachine$Drive" "bits" "I", Cond.sameField "UnibusMachine$Drive" "UnibusMachine$Line" "bits" "I", Cond.fieldLink RX0 75 "UnibusMachine$Drive" "count" "I", Cond.fieldLink RX0 78 "UnibusMachine$Drive" "address" "I", Cond.fieldLink RX0 81 "UnibusMachine$Drive" "sector" "I", Cond.fieldLink RX0 23 "UnibusMachine$Bus" "status" "LUnibusMachine$Status;", Cond.fieldLink RX0 105 "UnibusMachine$Status" "written" "I", Cond.methodLink RX0 94 ⟨"UnibusMachine$Keyboard", "become", "(I)V"⟩, Cond.sameMethod "UnibusMachine$Keyboard" "UnibusMachine$Line" "become" "(I)V"]
def wsX6_push_r4 : List Cond := [Cond.selects RX2 ⟨"UnibusMachine$Keyboard", "become", "(I)V"⟩ yX3_become, Cond.instanceMethod yX3_become, Cond.initialized RX3, Cond.code yX3_become cX3_become 2 none, Cond.fieldLink RX3 13 "UnibusMachine$Line" "wanting" "Z", Cond.fieldLink RX3 9 "UnibusMachine$Line" "bits" "I", Cond.methodLink RX0 99 ⟨"UnibusMachine$Printer", "become", "(I)V"⟩, Cond.sameMethod "UnibusMachine$Printer" "UnibusMachine$Line" "become" "(I)V", Cond.selects RX5 ⟨"UnibusMachine$Printer", "become", "(I)V"⟩ yX3_become, Cond.methodLink RX0 100 yX5_begin, Cond.instanceMethod yX5_begin, Cond.selects RX5 yX5_begin yX5_begin, Cond.initialized RX5, Cond.code yX5_begin cX5_begin 2 none, Cond.fieldLink RX5 17 "UnibusMachine$Printer" "character" "I", Cond.fieldLink RX5 20 "UnibusMachine$Printer" "left" "I", Cond.fieldLink RX5 23 "UnibusMachine$Printer" "fresh" "Z", Cond.fieldLink RX5 27 "UnibusMachine$Printer" "bits" "I", Cond.fieldLink RX5 30 "UnibusMachine$Printer" "wanting" "Z", Cond.sameField "UnibusMachine$Printer" "UnibusMachine$Line" "wanting" "Z", Cond.methodLink RX0 103 yX1_begin, Cond.instanceMethod yX1_begin, Cond.selects RX1 yX1_begin yX1_begin, Cond.initialized RX1]
def wsX6_push_r5 : List Cond := [Cond.code yX1_begin cX1_begin 2 none, Cond.fieldLink RX1 29 "UnibusMachine$Drive" "left" "I", Cond.fieldLink RX1 32 "UnibusMachine$Drive" "fresh" "Z", Cond.fieldLink RX1 17 "UnibusMachine$Drive" "wrong" "I", Cond.fieldLink RX1 36 "UnibusMachine$Drive" "bits" "I", Cond.fieldLink RX1 39 "UnibusMachine$Drive" "wanting" "Z", Cond.sameField "UnibusMachine$Drive" "UnibusMachine$Line" "wanting" "Z", Cond.methodLink RX0 104 ⟨"UnibusMachine$Drive", "become", "(I)V"⟩, Cond.sameMethod "UnibusMachine$Drive" "UnibusMachine$Line" "become" "(I)V", Cond.selects RX1 ⟨"UnibusMachine$Drive", "become", "(I)V"⟩ yX3_become]
def wsX6_push : List Cond := .code yX6_push cX6_push 2 none :: ((wsX6_push_r1 ++ (wsX6_push_r2 ++ (wsX6_push_r3 ++ (wsX6_push_r4 ++ wsX6_push_r5)))) ++ wsX60 ++ wsX70 ++ wsX00 ++ wsX40 ++ wsX10 ++ wsX20 ++ wsX50 ++ (vx_at0 RX6 111 "java/lang/UnsupportedOperationException" ["java/lang/RuntimeException", "java/lang/Exception"]).filter goodWord)
def wsX6_trap_r1 : List Cond := [Cond.fieldLink RX6 43 "UnibusMachine$Processor" "status" "LUnibusMachine$Status;", Cond.fieldLink RX6 44 "UnibusMachine$Status" "now" "I", Cond.fieldLink RX6 7 "UnibusMachine$Processor" "registers" "[I", Cond.methodLink RX6 56 yX6_readWord, Cond.instanceMethod yX6_readWord, Cond.selects RX6 yX6_readWord yX6_readWord, Cond.initialized RX6, Cond.code yX6_readWord cX6_readWord 4 (some .int), Cond.fieldLink RX6 33 "UnibusMachine$Processor" "bus" "LUnibusMachine$Bus;", Cond.methodLink RX6 112 yX6_stop, Cond.instanceMethod yX6_stop, Cond.selects RX6 yX6_stop yX6_stop, Cond.code yX6_stop cX6_stop 2 none, Cond.classLink RX6 65 "java/lang/UnsupportedOperationException", Cond.initialized "java/lang/UnsupportedOperationException", Cond.fieldLink RX6 24 "UnibusMachine$Processor" "vector" "I", Cond.methodLink RX6 115 yX6_place, Cond.instanceMethod yX6_place, Cond.selects RX6 yX6_place yX6_place, Cond.code yX6_place cX6_place 5 (some .int), Cond.fieldLink RX6 132 "UnibusMachine$Bus" "map" "LUnibusMachine$PageMap;", Cond.methodLink RX6 136 yX4_locate, Cond.instanceMethod yX4_locate, Cond.selects RX4 yX4_locate yX4_locate]
def wsX6_trap_r2 : List Cond := [Cond.initialized RX4, Cond.code yX4_locate cX4_locate 9 (some .int), Cond.fieldLink RX4 16 "UnibusMachine$PageMap" "control" "I", Cond.fieldLink RX4 9 "UnibusMachine$PageMap" "descriptors" "[I", Cond.constant RX4 20 (32768), Cond.fieldLink RX4 13 "UnibusMachine$PageMap" "bases" "[I", Cond.constant RX4 21 (65535), Cond.constant RX4 22 (57344), Cond.methodLink RX6 119 yX0_read, Cond.instanceMethod yX0_read, Cond.selects RX0 yX0_read yX0_read, Cond.initialized RX0, Cond.code yX0_read cX0_read 3 (some .int), Cond.constant RX0 91 (57426), Cond.fieldLink RX0 30 "UnibusMachine$Bus" "keyboard" "LUnibusMachine$Keyboard;", Cond.fieldLink RX0 61 "UnibusMachine$Keyboard" "bits" "I", Cond.sameField "UnibusMachine$Keyboard" "UnibusMachine$Line" "bits" "I", Cond.methodLink RX0 87 yX0_peek, Cond.instanceMethod yX0_peek, Cond.selects RX0 yX0_peek yX0_peek, Cond.code yX0_peek cX0_peek 2 (some .int), Cond.fieldLink RX0 9 "UnibusMachine$Bus" "memory" "[I", Cond.constant RX0 48 (57344), Cond.constant RX0 49 (57376)]
def wsX6_trap_r3 : List Cond := [Cond.fieldLink RX0 16 "UnibusMachine$Bus" "map" "LUnibusMachine$PageMap;", Cond.fieldLink RX0 50 "UnibusMachine$PageMap" "descriptors" "[I", Cond.constant RX0 53 (57408), Cond.fieldLink RX0 54 "UnibusMachine$PageMap" "bases" "[I", Cond.fieldLink RX0 57 "UnibusMachine$PageMap" "control" "I", Cond.fieldLink RX0 64 "UnibusMachine$Keyboard" "character" "I", Cond.fieldLink RX0 37 "UnibusMachine$Bus" "printer" "LUnibusMachine$Printer;", Cond.fieldLink RX0 67 "UnibusMachine$Printer" "bits" "I", Cond.sameField "UnibusMachine$Printer" "UnibusMachine$Line" "bits" "I", Cond.fieldLink RX0 44 "UnibusMachine$Bus" "drive" "LUnibusMachine$Drive;", Cond.fieldLink RX0 68 "UnibusMachine$Drive" "bits" "I", Cond.sameField "UnibusMachine$Drive" "UnibusMachine$Line" "bits" "I", Cond.fieldLink RX0 69 "UnibusMachine$Drive" "writing" "I", Cond.fieldLink RX0 72 "UnibusMachine$Drive" "wrong" "I", Cond.fieldLink RX0 75 "UnibusMachine$Drive" "count" "I", Cond.fieldLink RX0 78 "UnibusMachine$Drive" "address" "I", Cond.fieldLink RX0 81 "UnibusMachine$Drive" "sector" "I", Cond.fieldLink RX0 23 "UnibusMachine$Bus" "status" "LUnibusMachine$Status;", Cond.fieldLink RX0 84 "UnibusMachine$Status" "now" "I", Cond.methodLink RX0 94 ⟨"UnibusMachine$Keyboard", "become", "(I)V"⟩, Cond.sameMethod "UnibusMachine$Keyboard" "UnibusMachine$Line" "become" "(I)V", Cond.selects RX2 ⟨"UnibusMachine$Keyboard", "become", "(I)V"⟩ yX3_become, Cond.instanceMethod yX3_become, Cond.initialized RX3]
def wsX6_trap_r4 : List Cond := [Cond.code yX3_become cX3_become 2 none, Cond.fieldLink RX3 13 "UnibusMachine$Line" "wanting" "Z", Cond.fieldLink RX3 9 "UnibusMachine$Line" "bits" "I", Cond.methodLink RX6 52 yX6_mode, Cond.instanceMethod yX6_mode, Cond.selects RX6 yX6_mode yX6_mode, Cond.code yX6_mode cX6_mode 1 (some .int), Cond.methodLink RX6 76 yX6_takeStatus, Cond.instanceMethod yX6_takeStatus, Cond.selects RX6 yX6_takeStatus yX6_takeStatus, Cond.code yX6_takeStatus cX6_takeStatus 3 none, Cond.fieldLink RX6 13 "UnibusMachine$Processor" "otherStack" "I", Cond.methodLink RX6 108 yX6_push, Cond.instanceMethod yX6_push, Cond.selects RX6 yX6_push yX6_push, Cond.code yX6_push cX6_push 2 none, Cond.methodLink RX6 141 yX6_fall, Cond.instanceMethod yX6_fall, Cond.selects RX6 yX6_fall yX6_fall, Cond.code yX6_fall cX6_fall 3 (some .int), Cond.constant RX6 60 (65535), Cond.methodLink RX6 144 yX6_writeWord, Cond.instanceMethod yX6_writeWord, Cond.selects RX6 yX6_writeWord yX6_writeWord]
def wsX6_trap_r5 : List Cond := [Cond.code yX6_writeWord cX6_writeWord 4 none, Cond.methodLink RX6 123 yX0_write, Cond.instanceMethod yX0_write, Cond.selects RX0 yX0_write yX0_write, Cond.code yX0_write cX0_write 3 (some .boolean), Cond.constant RX0 98 (57375), Cond.fieldLink RX0 105 "UnibusMachine$Status" "written" "I", Cond.methodLink RX0 99 ⟨"UnibusMachine$Printer", "become", "(I)V"⟩, Cond.sameMethod "UnibusMachine$Printer" "UnibusMachine$Line" "become" "(I)V", Cond.selects RX5 ⟨"UnibusMachine$Printer", "become", "(I)V"⟩ yX3_become, Cond.methodLink RX0 100 yX5_begin, Cond.instanceMethod yX5_begin, Cond.selects RX5 yX5_begin yX5_begin, Cond.initialized RX5, Cond.code yX5_begin cX5_begin 2 none, Cond.fieldLink RX5 17 "UnibusMachine$Printer" "character" "I", Cond.fieldLink RX5 20 "UnibusMachine$Printer" "left" "I", Cond.fieldLink RX5 23 "UnibusMachine$Printer" "fresh" "Z", Cond.fieldLink RX5 27 "UnibusMachine$Printer" "bits" "I", Cond.fieldLink RX5 30 "UnibusMachine$Printer" "wanting" "Z", Cond.sameField "UnibusMachine$Printer" "UnibusMachine$Line" "wanting" "Z", Cond.methodLink RX0 103 yX1_begin, Cond.instanceMethod yX1_begin, Cond.selects RX1 yX1_begin yX1_begin]
def wsX6_trap_r6 : List Cond := [Cond.initialized RX1, Cond.code yX1_begin cX1_begin 2 none, Cond.fieldLink RX1 29 "UnibusMachine$Drive" "left" "I", Cond.fieldLink RX1 32 "UnibusMachine$Drive" "fresh" "Z", Cond.fieldLink RX1 17 "UnibusMachine$Drive" "wrong" "I", Cond.fieldLink RX1 36 "UnibusMachine$Drive" "bits" "I", Cond.fieldLink RX1 39 "UnibusMachine$Drive" "wanting" "Z", Cond.sameField "UnibusMachine$Drive" "UnibusMachine$Line" "wanting" "Z", Cond.methodLink RX0 104 ⟨"UnibusMachine$Drive", "become", "(I)V"⟩, Cond.sameMethod "UnibusMachine$Drive" "UnibusMachine$Line" "become" "(I)V", Cond.selects RX1 ⟨"UnibusMachine$Drive", "become", "(I)V"⟩ yX3_become]
def wsX6_trap : List Cond := .code yX6_trap cX6_trap 6 none :: ((wsX6_trap_r1 ++ (wsX6_trap_r2 ++ (wsX6_trap_r3 ++ (wsX6_trap_r4 ++ (wsX6_trap_r5 ++ wsX6_trap_r6))))) ++ wsX60 ++ wsX70 ++ wsX00 ++ wsX40 ++ wsX10 ++ wsX20 ++ wsX50 ++ (vx_at0 RX6 111 "java/lang/UnsupportedOperationException" ["java/lang/RuntimeException", "java/lang/Exception"]).filter goodWord)
def wsX6_settle : List Cond := .code yX6_settle cX6_settle 2 none :: ([.fieldLink RX6 43 "UnibusMachine$Processor" "status" "LUnibusMachine$Status;", .fieldLink RX6 73 "UnibusMachine$Status" "written" "I", .fieldLink RX6 44 "UnibusMachine$Status" "now" "I", .fieldLink RX6 27 "UnibusMachine$Processor" "named" "I", .fieldLink RX6 30 "UnibusMachine$Processor" "flags" "I", .methodLink RX6 76 yX6_takeStatus, .instanceMethod yX6_takeStatus, .selects RX6 yX6_takeStatus yX6_takeStatus, .initialized RX6, .code yX6_takeStatus cX6_takeStatus 3 none, .fieldLink RX6 7 "UnibusMachine$Processor" "registers" "[I", .fieldLink RX6 13 "UnibusMachine$Processor" "otherStack" "I"] ++ wsX60 ++ wsX70)
def wsX6_enter_r1 : List Cond := [Cond.classLink RX6 65 "java/lang/UnsupportedOperationException", Cond.fieldLink RX6 17 "UnibusMachine$Processor" "halted" "I", Cond.methodLink RX6 105 yX6_trap, Cond.instanceMethod yX6_trap, Cond.selects RX6 yX6_trap yX6_trap, Cond.initialized RX6, Cond.code yX6_trap cX6_trap 6 none, Cond.fieldLink RX6 43 "UnibusMachine$Processor" "status" "LUnibusMachine$Status;", Cond.fieldLink RX6 44 "UnibusMachine$Status" "now" "I", Cond.fieldLink RX6 7 "UnibusMachine$Processor" "registers" "[I", Cond.methodLink RX6 56 yX6_readWord, Cond.instanceMethod yX6_readWord, Cond.selects RX6 yX6_readWord yX6_readWord, Cond.code yX6_readWord cX6_readWord 4 (some .int), Cond.fieldLink RX6 33 "UnibusMachine$Processor" "bus" "LUnibusMachine$Bus;", Cond.methodLink RX6 112 yX6_stop, Cond.instanceMethod yX6_stop, Cond.selects RX6 yX6_stop yX6_stop, Cond.code yX6_stop cX6_stop 2 none, Cond.initialized "java/lang/UnsupportedOperationException", Cond.fieldLink RX6 24 "UnibusMachine$Processor" "vector" "I", Cond.methodLink RX6 115 yX6_place, Cond.instanceMethod yX6_place, Cond.selects RX6 yX6_place yX6_place]
def wsX6_enter_r2 : List Cond := [Cond.code yX6_place cX6_place 5 (some .int), Cond.fieldLink RX6 132 "UnibusMachine$Bus" "map" "LUnibusMachine$PageMap;", Cond.methodLink RX6 136 yX4_locate, Cond.instanceMethod yX4_locate, Cond.selects RX4 yX4_locate yX4_locate, Cond.initialized RX4, Cond.code yX4_locate cX4_locate 9 (some .int), Cond.fieldLink RX4 16 "UnibusMachine$PageMap" "control" "I", Cond.fieldLink RX4 9 "UnibusMachine$PageMap" "descriptors" "[I", Cond.constant RX4 20 (32768), Cond.fieldLink RX4 13 "UnibusMachine$PageMap" "bases" "[I", Cond.constant RX4 21 (65535), Cond.constant RX4 22 (57344), Cond.methodLink RX6 119 yX0_read, Cond.instanceMethod yX0_read, Cond.selects RX0 yX0_read yX0_read, Cond.initialized RX0, Cond.code yX0_read cX0_read 3 (some .int), Cond.constant RX0 91 (57426), Cond.fieldLink RX0 30 "UnibusMachine$Bus" "keyboard" "LUnibusMachine$Keyboard;", Cond.fieldLink RX0 61 "UnibusMachine$Keyboard" "bits" "I", Cond.sameField "UnibusMachine$Keyboard" "UnibusMachine$Line" "bits" "I", Cond.methodLink RX0 87 yX0_peek, Cond.instanceMethod yX0_peek]
def wsX6_enter_r3 : List Cond := [Cond.selects RX0 yX0_peek yX0_peek, Cond.code yX0_peek cX0_peek 2 (some .int), Cond.fieldLink RX0 9 "UnibusMachine$Bus" "memory" "[I", Cond.constant RX0 48 (57344), Cond.constant RX0 49 (57376), Cond.fieldLink RX0 16 "UnibusMachine$Bus" "map" "LUnibusMachine$PageMap;", Cond.fieldLink RX0 50 "UnibusMachine$PageMap" "descriptors" "[I", Cond.constant RX0 53 (57408), Cond.fieldLink RX0 54 "UnibusMachine$PageMap" "bases" "[I", Cond.fieldLink RX0 57 "UnibusMachine$PageMap" "control" "I", Cond.fieldLink RX0 64 "UnibusMachine$Keyboard" "character" "I", Cond.fieldLink RX0 37 "UnibusMachine$Bus" "printer" "LUnibusMachine$Printer;", Cond.fieldLink RX0 67 "UnibusMachine$Printer" "bits" "I", Cond.sameField "UnibusMachine$Printer" "UnibusMachine$Line" "bits" "I", Cond.fieldLink RX0 44 "UnibusMachine$Bus" "drive" "LUnibusMachine$Drive;", Cond.fieldLink RX0 68 "UnibusMachine$Drive" "bits" "I", Cond.sameField "UnibusMachine$Drive" "UnibusMachine$Line" "bits" "I", Cond.fieldLink RX0 69 "UnibusMachine$Drive" "writing" "I", Cond.fieldLink RX0 72 "UnibusMachine$Drive" "wrong" "I", Cond.fieldLink RX0 75 "UnibusMachine$Drive" "count" "I", Cond.fieldLink RX0 78 "UnibusMachine$Drive" "address" "I", Cond.fieldLink RX0 81 "UnibusMachine$Drive" "sector" "I", Cond.fieldLink RX0 23 "UnibusMachine$Bus" "status" "LUnibusMachine$Status;", Cond.fieldLink RX0 84 "UnibusMachine$Status" "now" "I"]
def wsX6_enter_r4 : List Cond := [Cond.methodLink RX0 94 ⟨"UnibusMachine$Keyboard", "become", "(I)V"⟩, Cond.sameMethod "UnibusMachine$Keyboard" "UnibusMachine$Line" "become" "(I)V", Cond.selects RX2 ⟨"UnibusMachine$Keyboard", "become", "(I)V"⟩ yX3_become, Cond.instanceMethod yX3_become, Cond.initialized RX3, Cond.code yX3_become cX3_become 2 none, Cond.fieldLink RX3 13 "UnibusMachine$Line" "wanting" "Z", Cond.fieldLink RX3 9 "UnibusMachine$Line" "bits" "I", Cond.methodLink RX6 52 yX6_mode, Cond.instanceMethod yX6_mode, Cond.selects RX6 yX6_mode yX6_mode, Cond.code yX6_mode cX6_mode 1 (some .int), Cond.methodLink RX6 76 yX6_takeStatus, Cond.instanceMethod yX6_takeStatus, Cond.selects RX6 yX6_takeStatus yX6_takeStatus, Cond.code yX6_takeStatus cX6_takeStatus 3 none, Cond.fieldLink RX6 13 "UnibusMachine$Processor" "otherStack" "I", Cond.methodLink RX6 108 yX6_push, Cond.instanceMethod yX6_push, Cond.selects RX6 yX6_push yX6_push, Cond.code yX6_push cX6_push 2 none, Cond.methodLink RX6 141 yX6_fall, Cond.instanceMethod yX6_fall, Cond.selects RX6 yX6_fall yX6_fall]
def wsX6_enter_r5 : List Cond := [Cond.code yX6_fall cX6_fall 3 (some .int), Cond.constant RX6 60 (65535), Cond.methodLink RX6 144 yX6_writeWord, Cond.instanceMethod yX6_writeWord, Cond.selects RX6 yX6_writeWord yX6_writeWord, Cond.code yX6_writeWord cX6_writeWord 4 none, Cond.methodLink RX6 123 yX0_write, Cond.instanceMethod yX0_write, Cond.selects RX0 yX0_write yX0_write, Cond.code yX0_write cX0_write 3 (some .boolean), Cond.constant RX0 98 (57375), Cond.fieldLink RX0 105 "UnibusMachine$Status" "written" "I", Cond.methodLink RX0 99 ⟨"UnibusMachine$Printer", "become", "(I)V"⟩, Cond.sameMethod "UnibusMachine$Printer" "UnibusMachine$Line" "become" "(I)V", Cond.selects RX5 ⟨"UnibusMachine$Printer", "become", "(I)V"⟩ yX3_become, Cond.methodLink RX0 100 yX5_begin, Cond.instanceMethod yX5_begin, Cond.selects RX5 yX5_begin yX5_begin, Cond.initialized RX5, Cond.code yX5_begin cX5_begin 2 none, Cond.fieldLink RX5 17 "UnibusMachine$Printer" "character" "I", Cond.fieldLink RX5 20 "UnibusMachine$Printer" "left" "I", Cond.fieldLink RX5 23 "UnibusMachine$Printer" "fresh" "Z", Cond.fieldLink RX5 27 "UnibusMachine$Printer" "bits" "I"]
def wsX6_enter_r6 : List Cond := [Cond.fieldLink RX5 30 "UnibusMachine$Printer" "wanting" "Z", Cond.sameField "UnibusMachine$Printer" "UnibusMachine$Line" "wanting" "Z", Cond.methodLink RX0 103 yX1_begin, Cond.instanceMethod yX1_begin, Cond.selects RX1 yX1_begin yX1_begin, Cond.initialized RX1, Cond.code yX1_begin cX1_begin 2 none, Cond.fieldLink RX1 29 "UnibusMachine$Drive" "left" "I", Cond.fieldLink RX1 32 "UnibusMachine$Drive" "fresh" "Z", Cond.fieldLink RX1 17 "UnibusMachine$Drive" "wrong" "I", Cond.fieldLink RX1 36 "UnibusMachine$Drive" "bits" "I", Cond.fieldLink RX1 39 "UnibusMachine$Drive" "wanting" "Z", Cond.sameField "UnibusMachine$Drive" "UnibusMachine$Line" "wanting" "Z", Cond.methodLink RX0 104 ⟨"UnibusMachine$Drive", "become", "(I)V"⟩, Cond.sameMethod "UnibusMachine$Drive" "UnibusMachine$Line" "become" "(I)V", Cond.selects RX1 ⟨"UnibusMachine$Drive", "become", "(I)V"⟩ yX3_become, Cond.methodLink RX6 70 yX6_settle, Cond.instanceMethod yX6_settle, Cond.selects RX6 yX6_settle yX6_settle, Cond.code yX6_settle cX6_settle 2 none, Cond.fieldLink RX6 73 "UnibusMachine$Status" "written" "I", Cond.fieldLink RX6 27 "UnibusMachine$Processor" "named" "I", Cond.fieldLink RX6 30 "UnibusMachine$Processor" "flags" "I"]
def wsX6_enter : List Cond := .codeWith yX6_enter cX6_enter 3 none [(0, 5, 8, 65)] :: ((wsX6_enter_r1 ++ (wsX6_enter_r2 ++ (wsX6_enter_r3 ++ (wsX6_enter_r4 ++ (wsX6_enter_r5 ++ wsX6_enter_r6))))) ++ wsX60 ++ wsX70 ++ wsX00 ++ wsX40 ++ wsX10 ++ wsX20 ++ wsX50 ++ (vx_at0 RX6 111 "java/lang/UnsupportedOperationException" ["java/lang/RuntimeException", "java/lang/Exception"]).filter goodWord)
theorem dX0_peek_0 : decode cX0_peek 0 = .ok (.iload_n 1, 1) := by decide +kernel
theorem dX0_peek_1 : decode cX0_peek 1 = .ok (.iconst 1, 1) := by decide +kernel
theorem dX0_peek_2 : decode cX0_peek 2 = .ok (.iand, 1) := by decide +kernel
theorem dX0_peek_3 : decode cX0_peek 3 = .ok (.ifCond .eq 5, 3) := by decide +kernel
theorem dX0_peek_6 : decode cX0_peek 6 = .ok (.iconst (-1), 1) := by decide +kernel
theorem dX0_peek_7 : decode cX0_peek 7 = .ok (.ireturn, 1) := by decide +kernel
theorem dX0_peek_8 : decode cX0_peek 8 = .ok (.iload_n 1, 1) := by decide +kernel
theorem dX0_peek_9 : decode cX0_peek 9 = .ok (.ifCond .lt 19, 3) := by decide +kernel
theorem dX0_peek_12 : decode cX0_peek 12 = .ok (.iload_n 1, 1) := by decide +kernel
theorem dX0_peek_13 : decode cX0_peek 13 = .ok (.sipush 1024, 3) := by decide +kernel
theorem dX0_peek_16 : decode cX0_peek 16 = .ok (.if_icmp .ge 12, 3) := by decide +kernel
theorem dX0_peek_19 : decode cX0_peek 19 = .ok (.aload_n 0, 1) := by decide +kernel
theorem dX0_peek_20 : decode cX0_peek 20 = .ok (.getfield 9, 3) := by decide +kernel
theorem dX0_peek_23 : decode cX0_peek 23 = .ok (.iload_n 1, 1) := by decide +kernel
theorem dX0_peek_24 : decode cX0_peek 24 = .ok (.iconst 1, 1) := by decide +kernel
theorem dX0_peek_25 : decode cX0_peek 25 = .ok (.ishr, 1) := by decide +kernel
theorem dX0_peek_26 : decode cX0_peek 26 = .ok (.iaload, 1) := by decide +kernel
theorem dX0_peek_27 : decode cX0_peek 27 = .ok (.ireturn, 1) := by decide +kernel
theorem dX0_peek_28 : decode cX0_peek 28 = .ok (.iload_n 1, 1) := by decide +kernel
theorem dX0_peek_29 : decode cX0_peek 29 = .ok (.ldc 48, 2) := by decide +kernel
theorem dX0_peek_31 : decode cX0_peek 31 = .ok (.if_icmp .lt 24, 3) := by decide +kernel
theorem dX0_peek_34 : decode cX0_peek 34 = .ok (.iload_n 1, 1) := by decide +kernel
theorem dX0_peek_35 : decode cX0_peek 35 = .ok (.ldc 49, 2) := by decide +kernel
theorem dX0_peek_37 : decode cX0_peek 37 = .ok (.if_icmp .ge 18, 3) := by decide +kernel
theorem dX0_peek_40 : decode cX0_peek 40 = .ok (.aload_n 0, 1) := by decide +kernel
theorem dX0_peek_41 : decode cX0_peek 41 = .ok (.getfield 16, 3) := by decide +kernel
theorem dX0_peek_44 : decode cX0_peek 44 = .ok (.getfield 50, 3) := by decide +kernel
theorem dX0_peek_47 : decode cX0_peek 47 = .ok (.iload_n 1, 1) := by decide +kernel
theorem dX0_peek_48 : decode cX0_peek 48 = .ok (.ldc 48, 2) := by decide +kernel
theorem dX0_peek_50 : decode cX0_peek 50 = .ok (.isub, 1) := by decide +kernel
theorem dX0_peek_51 : decode cX0_peek 51 = .ok (.iconst 1, 1) := by decide +kernel
theorem dX0_peek_52 : decode cX0_peek 52 = .ok (.ishr, 1) := by decide +kernel
theorem dX0_peek_53 : decode cX0_peek 53 = .ok (.iaload, 1) := by decide +kernel
theorem dX0_peek_54 : decode cX0_peek 54 = .ok (.ireturn, 1) := by decide +kernel
theorem dX0_peek_55 : decode cX0_peek 55 = .ok (.iload_n 1, 1) := by decide +kernel
theorem dX0_peek_56 : decode cX0_peek 56 = .ok (.ldc 49, 2) := by decide +kernel
theorem dX0_peek_58 : decode cX0_peek 58 = .ok (.if_icmp .lt 24, 3) := by decide +kernel
theorem dX0_peek_61 : decode cX0_peek 61 = .ok (.iload_n 1, 1) := by decide +kernel
theorem dX0_peek_62 : decode cX0_peek 62 = .ok (.ldc 53, 2) := by decide +kernel
theorem dX0_peek_64 : decode cX0_peek 64 = .ok (.if_icmp .ge 18, 3) := by decide +kernel
theorem dX0_peek_67 : decode cX0_peek 67 = .ok (.aload_n 0, 1) := by decide +kernel
theorem dX0_peek_68 : decode cX0_peek 68 = .ok (.getfield 16, 3) := by decide +kernel
theorem dX0_peek_71 : decode cX0_peek 71 = .ok (.getfield 54, 3) := by decide +kernel
theorem dX0_peek_74 : decode cX0_peek 74 = .ok (.iload_n 1, 1) := by decide +kernel
theorem dX0_peek_75 : decode cX0_peek 75 = .ok (.ldc 49, 2) := by decide +kernel
theorem dX0_peek_77 : decode cX0_peek 77 = .ok (.isub, 1) := by decide +kernel
theorem dX0_peek_78 : decode cX0_peek 78 = .ok (.iconst 1, 1) := by decide +kernel
theorem dX0_peek_79 : decode cX0_peek 79 = .ok (.ishr, 1) := by decide +kernel
theorem dX0_peek_80 : decode cX0_peek 80 = .ok (.iaload, 1) := by decide +kernel
theorem dX0_peek_81 : decode cX0_peek 81 = .ok (.ireturn, 1) := by decide +kernel
theorem dX0_peek_82 : decode cX0_peek 82 = .ok (.iload_n 1, 1) := by decide +kernel
theorem dX0_peek_83 : decode cX0_peek 83 = .ok (.lookupswitch 179 #[(57408, 89), (57424, 97), (57426, 105), (57428, 113), (57430, 121), (57440, 123), (57442, 147), (57444, 155), (57446, 163), (57470, 171)], 89) := by decide +kernel
theorem dX0_peek_172 : decode cX0_peek 172 = .ok (.aload_n 0, 1) := by decide +kernel
theorem dX0_peek_173 : decode cX0_peek 173 = .ok (.getfield 16, 3) := by decide +kernel
theorem dX0_peek_176 : decode cX0_peek 176 = .ok (.getfield 57, 3) := by decide +kernel
theorem dX0_peek_179 : decode cX0_peek 179 = .ok (.ireturn, 1) := by decide +kernel
theorem dX0_peek_180 : decode cX0_peek 180 = .ok (.aload_n 0, 1) := by decide +kernel
theorem dX0_peek_181 : decode cX0_peek 181 = .ok (.getfield 30, 3) := by decide +kernel
theorem dX0_peek_184 : decode cX0_peek 184 = .ok (.getfield 61, 3) := by decide +kernel
theorem dX0_peek_187 : decode cX0_peek 187 = .ok (.ireturn, 1) := by decide +kernel
theorem dX0_peek_188 : decode cX0_peek 188 = .ok (.aload_n 0, 1) := by decide +kernel
theorem dX0_peek_189 : decode cX0_peek 189 = .ok (.getfield 30, 3) := by decide +kernel
theorem dX0_peek_192 : decode cX0_peek 192 = .ok (.getfield 64, 3) := by decide +kernel
theorem dX0_peek_195 : decode cX0_peek 195 = .ok (.ireturn, 1) := by decide +kernel
theorem dX0_peek_196 : decode cX0_peek 196 = .ok (.aload_n 0, 1) := by decide +kernel
theorem dX0_peek_197 : decode cX0_peek 197 = .ok (.getfield 37, 3) := by decide +kernel
theorem dX0_peek_200 : decode cX0_peek 200 = .ok (.getfield 67, 3) := by decide +kernel
theorem dX0_peek_203 : decode cX0_peek 203 = .ok (.ireturn, 1) := by decide +kernel
theorem dX0_peek_204 : decode cX0_peek 204 = .ok (.iconst 0, 1) := by decide +kernel
theorem dX0_peek_205 : decode cX0_peek 205 = .ok (.ireturn, 1) := by decide +kernel
theorem dX0_peek_206 : decode cX0_peek 206 = .ok (.aload_n 0, 1) := by decide +kernel
theorem dX0_peek_207 : decode cX0_peek 207 = .ok (.getfield 44, 3) := by decide +kernel
theorem dX0_peek_210 : decode cX0_peek 210 = .ok (.getfield 68, 3) := by decide +kernel
theorem dX0_peek_213 : decode cX0_peek 213 = .ok (.aload_n 0, 1) := by decide +kernel
theorem dX0_peek_214 : decode cX0_peek 214 = .ok (.getfield 44, 3) := by decide +kernel
theorem dX0_peek_217 : decode cX0_peek 217 = .ok (.getfield 69, 3) := by decide +kernel
theorem dX0_peek_220 : decode cX0_peek 220 = .ok (.ior, 1) := by decide +kernel
theorem dX0_peek_221 : decode cX0_peek 221 = .ok (.aload_n 0, 1) := by decide +kernel
theorem dX0_peek_222 : decode cX0_peek 222 = .ok (.getfield 44, 3) := by decide +kernel
theorem dX0_peek_225 : decode cX0_peek 225 = .ok (.getfield 72, 3) := by decide +kernel
theorem dX0_peek_228 : decode cX0_peek 228 = .ok (.ior, 1) := by decide +kernel
theorem dX0_peek_229 : decode cX0_peek 229 = .ok (.ireturn, 1) := by decide +kernel
theorem dX0_peek_230 : decode cX0_peek 230 = .ok (.aload_n 0, 1) := by decide +kernel
theorem dX0_peek_231 : decode cX0_peek 231 = .ok (.getfield 44, 3) := by decide +kernel
theorem dX0_peek_234 : decode cX0_peek 234 = .ok (.getfield 75, 3) := by decide +kernel
theorem dX0_peek_237 : decode cX0_peek 237 = .ok (.ireturn, 1) := by decide +kernel
theorem dX0_peek_238 : decode cX0_peek 238 = .ok (.aload_n 0, 1) := by decide +kernel
theorem dX0_peek_239 : decode cX0_peek 239 = .ok (.getfield 44, 3) := by decide +kernel
theorem dX0_peek_242 : decode cX0_peek 242 = .ok (.getfield 78, 3) := by decide +kernel
theorem dX0_peek_245 : decode cX0_peek 245 = .ok (.ireturn, 1) := by decide +kernel
theorem dX0_peek_246 : decode cX0_peek 246 = .ok (.aload_n 0, 1) := by decide +kernel
theorem dX0_peek_247 : decode cX0_peek 247 = .ok (.getfield 44, 3) := by decide +kernel
theorem dX0_peek_250 : decode cX0_peek 250 = .ok (.getfield 81, 3) := by decide +kernel
theorem dX0_peek_253 : decode cX0_peek 253 = .ok (.ireturn, 1) := by decide +kernel
theorem dX0_peek_254 : decode cX0_peek 254 = .ok (.aload_n 0, 1) := by decide +kernel
theorem dX0_peek_255 : decode cX0_peek 255 = .ok (.getfield 23, 3) := by decide +kernel
theorem dX0_peek_258 : decode cX0_peek 258 = .ok (.getfield 84, 3) := by decide +kernel
theorem dX0_peek_261 : decode cX0_peek 261 = .ok (.ireturn, 1) := by decide +kernel
theorem dX0_peek_262 : decode cX0_peek 262 = .ok (.iconst (-1), 1) := by decide +kernel
theorem dX0_peek_263 : decode cX0_peek 263 = .ok (.ireturn, 1) := by decide +kernel
def wsX6_lookForInterrupt_r1 : List Cond := [Cond.fieldLink RX6 43 "UnibusMachine$Processor" "status" "LUnibusMachine$Status;", Cond.fieldLink RX6 44 "UnibusMachine$Status" "now" "I", Cond.fieldLink RX6 33 "UnibusMachine$Processor" "bus" "LUnibusMachine$Bus;", Cond.fieldLink RX6 79 "UnibusMachine$Bus" "drive" "LUnibusMachine$Drive;", Cond.fieldLink RX6 83 "UnibusMachine$Drive" "wanting" "Z", Cond.sameField "UnibusMachine$Drive" "UnibusMachine$Line" "wanting" "Z", Cond.fieldLink RX6 88 "UnibusMachine$Bus" "keyboard" "LUnibusMachine$Keyboard;", Cond.fieldLink RX6 92 "UnibusMachine$Keyboard" "wanting" "Z", Cond.sameField "UnibusMachine$Keyboard" "UnibusMachine$Line" "wanting" "Z", Cond.fieldLink RX6 95 "UnibusMachine$Bus" "printer" "LUnibusMachine$Printer;", Cond.fieldLink RX6 99 "UnibusMachine$Printer" "wanting" "Z", Cond.sameField "UnibusMachine$Printer" "UnibusMachine$Line" "wanting" "Z", Cond.fieldLink RX6 102 "UnibusMachine$Line" "wanting" "Z", Cond.fieldLink RX6 20 "UnibusMachine$Processor" "waiting" "Z", Cond.initialized "java/lang/UnsupportedOperationException", Cond.sameField "UnibusMachine$Keyboard" "UnibusMachine$Line" "bits" "I", Cond.sameField "UnibusMachine$Printer" "UnibusMachine$Line" "bits" "I", Cond.sameField "UnibusMachine$Drive" "UnibusMachine$Line" "bits" "I"]
def wsX6_lookForInterrupt : List Cond := .code yX6_lookForInterrupt cX6_lookForInterrupt 4 none :: (wsX6_lookForInterrupt_r1 ++ wsX60 ++ wsX70 ++ wsX00 ++ wsX10 ++ wsX20 ++ wsX50 ++ wsX40 ++ (vx_at0 RX6 111 "java/lang/UnsupportedOperationException" ["java/lang/RuntimeException", "java/lang/Exception"]).filter goodWord)
def wsX6_perform_r1 : List Cond := [Cond.classLink RX6 65 "java/lang/UnsupportedOperationException", Cond.fieldLink RX6 33 "UnibusMachine$Processor" "bus" "LUnibusMachine$Bus;", Cond.fieldLink RX6 20 "UnibusMachine$Processor" "waiting" "Z", Cond.fieldLink RX6 7 "UnibusMachine$Processor" "registers" "[I", Cond.constant RX6 60 (65535), Cond.fieldLink RX6 24 "UnibusMachine$Processor" "vector" "I", Cond.methodLink RX6 49 yX0_nextInstruction, Cond.instanceMethod yX0_nextInstruction, Cond.selects RX0 yX0_nextInstruction yX0_nextInstruction, Cond.initialized RX0, Cond.code yX0_nextInstruction cX0_nextInstruction 1 none, Cond.fieldLink RX0 37 "UnibusMachine$Bus" "printer" "LUnibusMachine$Printer;", Cond.fieldLink RX0 108 "UnibusMachine$Printer" "fresh" "Z", Cond.fieldLink RX0 44 "UnibusMachine$Bus" "drive" "LUnibusMachine$Drive;", Cond.fieldLink RX0 112 "UnibusMachine$Drive" "fresh" "Z", Cond.methodLink RX6 52 yX6_mode, Cond.instanceMethod yX6_mode, Cond.selects RX6 yX6_mode yX6_mode, Cond.initialized RX6, Cond.code yX6_mode cX6_mode 1 (some .int), Cond.fieldLink RX6 43 "UnibusMachine$Processor" "status" "LUnibusMachine$Status;", Cond.fieldLink RX6 44 "UnibusMachine$Status" "now" "I", Cond.methodLink RX6 56 yX6_readWord, Cond.instanceMethod yX6_readWord]
def wsX6_perform_r2 : List Cond := [Cond.selects RX6 yX6_readWord yX6_readWord, Cond.code yX6_readWord cX6_readWord 4 (some .int), Cond.methodLink RX6 112 yX6_stop, Cond.instanceMethod yX6_stop, Cond.selects RX6 yX6_stop yX6_stop, Cond.code yX6_stop cX6_stop 2 none, Cond.initialized "java/lang/UnsupportedOperationException", Cond.methodLink RX6 115 yX6_place, Cond.instanceMethod yX6_place, Cond.selects RX6 yX6_place yX6_place, Cond.code yX6_place cX6_place 5 (some .int), Cond.fieldLink RX6 132 "UnibusMachine$Bus" "map" "LUnibusMachine$PageMap;", Cond.methodLink RX6 136 yX4_locate, Cond.instanceMethod yX4_locate, Cond.selects RX4 yX4_locate yX4_locate, Cond.initialized RX4, Cond.code yX4_locate cX4_locate 9 (some .int), Cond.fieldLink RX4 16 "UnibusMachine$PageMap" "control" "I", Cond.fieldLink RX4 9 "UnibusMachine$PageMap" "descriptors" "[I", Cond.constant RX4 20 (32768), Cond.fieldLink RX4 13 "UnibusMachine$PageMap" "bases" "[I", Cond.constant RX4 21 (65535), Cond.constant RX4 22 (57344), Cond.methodLink RX6 119 yX0_read]
def wsX6_perform_r3 : List Cond := [Cond.instanceMethod yX0_read, Cond.selects RX0 yX0_read yX0_read, Cond.code yX0_read cX0_read 3 (some .int), Cond.constant RX0 91 (57426), Cond.fieldLink RX0 30 "UnibusMachine$Bus" "keyboard" "LUnibusMachine$Keyboard;", Cond.fieldLink RX0 61 "UnibusMachine$Keyboard" "bits" "I", Cond.sameField "UnibusMachine$Keyboard" "UnibusMachine$Line" "bits" "I", Cond.methodLink RX0 87 yX0_peek, Cond.instanceMethod yX0_peek, Cond.selects RX0 yX0_peek yX0_peek, Cond.code yX0_peek cX0_peek 2 (some .int), Cond.fieldLink RX0 9 "UnibusMachine$Bus" "memory" "[I", Cond.constant RX0 48 (57344), Cond.constant RX0 49 (57376), Cond.fieldLink RX0 16 "UnibusMachine$Bus" "map" "LUnibusMachine$PageMap;", Cond.fieldLink RX0 50 "UnibusMachine$PageMap" "descriptors" "[I", Cond.constant RX0 53 (57408), Cond.fieldLink RX0 54 "UnibusMachine$PageMap" "bases" "[I", Cond.fieldLink RX0 57 "UnibusMachine$PageMap" "control" "I", Cond.fieldLink RX0 64 "UnibusMachine$Keyboard" "character" "I", Cond.fieldLink RX0 67 "UnibusMachine$Printer" "bits" "I", Cond.sameField "UnibusMachine$Printer" "UnibusMachine$Line" "bits" "I", Cond.fieldLink RX0 68 "UnibusMachine$Drive" "bits" "I", Cond.sameField "UnibusMachine$Drive" "UnibusMachine$Line" "bits" "I"]
def wsX6_perform_r4 : List Cond := [Cond.fieldLink RX0 69 "UnibusMachine$Drive" "writing" "I", Cond.fieldLink RX0 72 "UnibusMachine$Drive" "wrong" "I", Cond.fieldLink RX0 75 "UnibusMachine$Drive" "count" "I", Cond.fieldLink RX0 78 "UnibusMachine$Drive" "address" "I", Cond.fieldLink RX0 81 "UnibusMachine$Drive" "sector" "I", Cond.fieldLink RX0 23 "UnibusMachine$Bus" "status" "LUnibusMachine$Status;", Cond.fieldLink RX0 84 "UnibusMachine$Status" "now" "I", Cond.methodLink RX0 94 ⟨"UnibusMachine$Keyboard", "become", "(I)V"⟩, Cond.sameMethod "UnibusMachine$Keyboard" "UnibusMachine$Line" "become" "(I)V", Cond.selects RX2 ⟨"UnibusMachine$Keyboard", "become", "(I)V"⟩ yX3_become, Cond.instanceMethod yX3_become, Cond.initialized RX3, Cond.code yX3_become cX3_become 2 none, Cond.fieldLink RX3 13 "UnibusMachine$Line" "wanting" "Z", Cond.fieldLink RX3 9 "UnibusMachine$Line" "bits" "I", Cond.methodLink RX6 141 yX6_fall, Cond.instanceMethod yX6_fall, Cond.selects RX6 yX6_fall yX6_fall, Cond.code yX6_fall cX6_fall 3 (some .int), Cond.methodLink RX6 123 yX0_write, Cond.instanceMethod yX0_write, Cond.selects RX0 yX0_write yX0_write, Cond.code yX0_write cX0_write 3 (some .boolean), Cond.constant RX0 98 (57375)]
def wsX6_perform_r5 : List Cond := [Cond.fieldLink RX0 105 "UnibusMachine$Status" "written" "I", Cond.methodLink RX0 99 ⟨"UnibusMachine$Printer", "become", "(I)V"⟩, Cond.sameMethod "UnibusMachine$Printer" "UnibusMachine$Line" "become" "(I)V", Cond.selects RX5 ⟨"UnibusMachine$Printer", "become", "(I)V"⟩ yX3_become, Cond.methodLink RX0 100 yX5_begin, Cond.instanceMethod yX5_begin, Cond.selects RX5 yX5_begin yX5_begin, Cond.initialized RX5, Cond.code yX5_begin cX5_begin 2 none, Cond.fieldLink RX5 17 "UnibusMachine$Printer" "character" "I", Cond.fieldLink RX5 20 "UnibusMachine$Printer" "left" "I", Cond.fieldLink RX5 23 "UnibusMachine$Printer" "fresh" "Z", Cond.fieldLink RX5 27 "UnibusMachine$Printer" "bits" "I", Cond.fieldLink RX5 30 "UnibusMachine$Printer" "wanting" "Z", Cond.sameField "UnibusMachine$Printer" "UnibusMachine$Line" "wanting" "Z", Cond.methodLink RX0 103 yX1_begin, Cond.instanceMethod yX1_begin, Cond.selects RX1 yX1_begin yX1_begin, Cond.initialized RX1, Cond.code yX1_begin cX1_begin 2 none, Cond.fieldLink RX1 29 "UnibusMachine$Drive" "left" "I", Cond.fieldLink RX1 32 "UnibusMachine$Drive" "fresh" "Z", Cond.fieldLink RX1 17 "UnibusMachine$Drive" "wrong" "I", Cond.fieldLink RX1 36 "UnibusMachine$Drive" "bits" "I"]
def wsX6_perform_r6 : List Cond := [Cond.fieldLink RX1 39 "UnibusMachine$Drive" "wanting" "Z", Cond.sameField "UnibusMachine$Drive" "UnibusMachine$Line" "wanting" "Z", Cond.methodLink RX0 104 ⟨"UnibusMachine$Drive", "become", "(I)V"⟩, Cond.sameMethod "UnibusMachine$Drive" "UnibusMachine$Line" "become" "(I)V", Cond.selects RX1 ⟨"UnibusMachine$Drive", "become", "(I)V"⟩ yX3_become, Cond.methodLink RX6 144 yX6_writeWord, Cond.instanceMethod yX6_writeWord, Cond.selects RX6 yX6_writeWord yX6_writeWord, Cond.code yX6_writeWord cX6_writeWord 4 none, Cond.fieldLink RX6 27 "UnibusMachine$Processor" "named" "I", Cond.fieldLink RX6 30 "UnibusMachine$Processor" "flags" "I", Cond.methodLink RX6 108 yX6_push, Cond.instanceMethod yX6_push, Cond.selects RX6 yX6_push yX6_push, Cond.code yX6_push cX6_push 2 none, Cond.methodLink RX6 76 yX6_takeStatus, Cond.instanceMethod yX6_takeStatus, Cond.selects RX6 yX6_takeStatus yX6_takeStatus, Cond.code yX6_takeStatus cX6_takeStatus 3 none, Cond.fieldLink RX6 13 "UnibusMachine$Processor" "otherStack" "I", Cond.fieldLink RX6 17 "UnibusMachine$Processor" "halted" "I", Cond.methodLink RX6 67 yX6_enter, Cond.instanceMethod yX6_enter, Cond.selects RX6 yX6_enter yX6_enter]
def wsX6_perform_r7 : List Cond := [Cond.codeWith yX6_enter cX6_enter 3 none [(0, 5, 8, 65)], Cond.methodLink RX6 105 yX6_trap, Cond.instanceMethod yX6_trap, Cond.selects RX6 yX6_trap yX6_trap, Cond.code yX6_trap cX6_trap 6 none, Cond.methodLink RX6 70 yX6_settle, Cond.instanceMethod yX6_settle, Cond.selects RX6 yX6_settle yX6_settle, Cond.code yX6_settle cX6_settle 2 none, Cond.fieldLink RX6 73 "UnibusMachine$Status" "written" "I"]
def wsX6_perform : List Cond := .codeWith yX6_perform cX6_perform 3 none [(17, 57, 60, 65)] :: ((wsX6_perform_r1 ++ (wsX6_perform_r2 ++ (wsX6_perform_r3 ++ (wsX6_perform_r4 ++ (wsX6_perform_r5 ++ (wsX6_perform_r6 ++ wsX6_perform_r7)))))) ++ wsX60 ++ wsX00 ++ wsX50 ++ wsX10 ++ wsX70 ++ wsX40 ++ wsX20 ++ (vx_at0 RX6 111 "java/lang/UnsupportedOperationException" ["java/lang/RuntimeException", "java/lang/Exception"]).filter goodWord)
def wsX8_run_r1 : List Cond := [Cond.classLink RX8 32 "java/lang/IllegalArgumentException", Cond.initialized "java/lang/IllegalArgumentException", Cond.classLink RX8 70 "java/lang/IllegalStateException", Cond.initialized "java/lang/IllegalStateException", Cond.fieldLink RX8 21 "UnibusMachine" "processor" "LUnibusMachine$Processor;", Cond.fieldLink RX8 63 "UnibusMachine$Processor" "halted" "I", Cond.fieldLink RX8 10 "UnibusMachine" "bus" "LUnibusMachine$Bus;", Cond.methodLink RX8 73 yX6_perform, Cond.instanceMethod yX6_perform, Cond.selects RX6 yX6_perform yX6_perform, Cond.initialized RX6, Cond.codeWith yX6_perform cX6_perform 3 none [(17, 57, 60, 65)], Cond.classLink RX6 65 "java/lang/UnsupportedOperationException", Cond.fieldLink RX6 33 "UnibusMachine$Processor" "bus" "LUnibusMachine$Bus;", Cond.fieldLink RX6 20 "UnibusMachine$Processor" "waiting" "Z", Cond.fieldLink RX6 7 "UnibusMachine$Processor" "registers" "[I", Cond.constant RX6 60 (65535), Cond.fieldLink RX6 24 "UnibusMachine$Processor" "vector" "I", Cond.methodLink RX6 49 yX0_nextInstruction, Cond.instanceMethod yX0_nextInstruction, Cond.selects RX0 yX0_nextInstruction yX0_nextInstruction, Cond.initialized RX0, Cond.code yX0_nextInstruction cX0_nextInstruction 1 none, Cond.fieldLink RX0 37 "UnibusMachine$Bus" "printer" "LUnibusMachine$Printer;"]
def wsX8_run_r2 : List Cond := [Cond.fieldLink RX0 108 "UnibusMachine$Printer" "fresh" "Z", Cond.fieldLink RX0 44 "UnibusMachine$Bus" "drive" "LUnibusMachine$Drive;", Cond.fieldLink RX0 112 "UnibusMachine$Drive" "fresh" "Z", Cond.methodLink RX6 52 yX6_mode, Cond.instanceMethod yX6_mode, Cond.selects RX6 yX6_mode yX6_mode, Cond.code yX6_mode cX6_mode 1 (some .int), Cond.fieldLink RX6 43 "UnibusMachine$Processor" "status" "LUnibusMachine$Status;", Cond.fieldLink RX6 44 "UnibusMachine$Status" "now" "I", Cond.methodLink RX6 56 yX6_readWord, Cond.instanceMethod yX6_readWord, Cond.selects RX6 yX6_readWord yX6_readWord, Cond.code yX6_readWord cX6_readWord 4 (some .int), Cond.methodLink RX6 112 yX6_stop, Cond.instanceMethod yX6_stop, Cond.selects RX6 yX6_stop yX6_stop, Cond.code yX6_stop cX6_stop 2 none, Cond.initialized "java/lang/UnsupportedOperationException", Cond.methodLink RX6 115 yX6_place, Cond.instanceMethod yX6_place, Cond.selects RX6 yX6_place yX6_place, Cond.code yX6_place cX6_place 5 (some .int), Cond.fieldLink RX6 132 "UnibusMachine$Bus" "map" "LUnibusMachine$PageMap;", Cond.methodLink RX6 136 yX4_locate]
def wsX8_run_r3 : List Cond := [Cond.instanceMethod yX4_locate, Cond.selects RX4 yX4_locate yX4_locate, Cond.initialized RX4, Cond.code yX4_locate cX4_locate 9 (some .int), Cond.fieldLink RX4 16 "UnibusMachine$PageMap" "control" "I", Cond.fieldLink RX4 9 "UnibusMachine$PageMap" "descriptors" "[I", Cond.constant RX4 20 (32768), Cond.fieldLink RX4 13 "UnibusMachine$PageMap" "bases" "[I", Cond.constant RX4 21 (65535), Cond.constant RX4 22 (57344), Cond.methodLink RX6 119 yX0_read, Cond.instanceMethod yX0_read, Cond.selects RX0 yX0_read yX0_read, Cond.code yX0_read cX0_read 3 (some .int), Cond.constant RX0 91 (57426), Cond.fieldLink RX0 30 "UnibusMachine$Bus" "keyboard" "LUnibusMachine$Keyboard;", Cond.fieldLink RX0 61 "UnibusMachine$Keyboard" "bits" "I", Cond.sameField "UnibusMachine$Keyboard" "UnibusMachine$Line" "bits" "I", Cond.methodLink RX0 87 yX0_peek, Cond.instanceMethod yX0_peek, Cond.selects RX0 yX0_peek yX0_peek, Cond.code yX0_peek cX0_peek 2 (some .int), Cond.fieldLink RX0 9 "UnibusMachine$Bus" "memory" "[I", Cond.constant RX0 48 (57344)]
def wsX8_run_r4 : List Cond := [Cond.constant RX0 49 (57376), Cond.fieldLink RX0 16 "UnibusMachine$Bus" "map" "LUnibusMachine$PageMap;", Cond.fieldLink RX0 50 "UnibusMachine$PageMap" "descriptors" "[I", Cond.constant RX0 53 (57408), Cond.fieldLink RX0 54 "UnibusMachine$PageMap" "bases" "[I", Cond.fieldLink RX0 57 "UnibusMachine$PageMap" "control" "I", Cond.fieldLink RX0 64 "UnibusMachine$Keyboard" "character" "I", Cond.fieldLink RX0 67 "UnibusMachine$Printer" "bits" "I", Cond.sameField "UnibusMachine$Printer" "UnibusMachine$Line" "bits" "I", Cond.fieldLink RX0 68 "UnibusMachine$Drive" "bits" "I", Cond.sameField "UnibusMachine$Drive" "UnibusMachine$Line" "bits" "I", Cond.fieldLink RX0 69 "UnibusMachine$Drive" "writing" "I", Cond.fieldLink RX0 72 "UnibusMachine$Drive" "wrong" "I", Cond.fieldLink RX0 75 "UnibusMachine$Drive" "count" "I", Cond.fieldLink RX0 78 "UnibusMachine$Drive" "address" "I", Cond.fieldLink RX0 81 "UnibusMachine$Drive" "sector" "I", Cond.fieldLink RX0 23 "UnibusMachine$Bus" "status" "LUnibusMachine$Status;", Cond.fieldLink RX0 84 "UnibusMachine$Status" "now" "I", Cond.methodLink RX0 94 ⟨"UnibusMachine$Keyboard", "become", "(I)V"⟩, Cond.sameMethod "UnibusMachine$Keyboard" "UnibusMachine$Line" "become" "(I)V", Cond.selects RX2 ⟨"UnibusMachine$Keyboard", "become", "(I)V"⟩ yX3_become, Cond.instanceMethod yX3_become, Cond.initialized RX3, Cond.code yX3_become cX3_become 2 none]
def wsX8_run_r5 : List Cond := [Cond.fieldLink RX3 13 "UnibusMachine$Line" "wanting" "Z", Cond.fieldLink RX3 9 "UnibusMachine$Line" "bits" "I", Cond.methodLink RX6 141 yX6_fall, Cond.instanceMethod yX6_fall, Cond.selects RX6 yX6_fall yX6_fall, Cond.code yX6_fall cX6_fall 3 (some .int), Cond.methodLink RX6 123 yX0_write, Cond.instanceMethod yX0_write, Cond.selects RX0 yX0_write yX0_write, Cond.code yX0_write cX0_write 3 (some .boolean), Cond.constant RX0 98 (57375), Cond.fieldLink RX0 105 "UnibusMachine$Status" "written" "I", Cond.methodLink RX0 99 ⟨"UnibusMachine$Printer", "become", "(I)V"⟩, Cond.sameMethod "UnibusMachine$Printer" "UnibusMachine$Line" "become" "(I)V", Cond.selects RX5 ⟨"UnibusMachine$Printer", "become", "(I)V"⟩ yX3_become, Cond.methodLink RX0 100 yX5_begin, Cond.instanceMethod yX5_begin, Cond.selects RX5 yX5_begin yX5_begin, Cond.initialized RX5, Cond.code yX5_begin cX5_begin 2 none, Cond.fieldLink RX5 17 "UnibusMachine$Printer" "character" "I", Cond.fieldLink RX5 20 "UnibusMachine$Printer" "left" "I", Cond.fieldLink RX5 23 "UnibusMachine$Printer" "fresh" "Z", Cond.fieldLink RX5 27 "UnibusMachine$Printer" "bits" "I"]
def wsX8_run_r6 : List Cond := [Cond.fieldLink RX5 30 "UnibusMachine$Printer" "wanting" "Z", Cond.sameField "UnibusMachine$Printer" "UnibusMachine$Line" "wanting" "Z", Cond.methodLink RX0 103 yX1_begin, Cond.instanceMethod yX1_begin, Cond.selects RX1 yX1_begin yX1_begin, Cond.initialized RX1, Cond.code yX1_begin cX1_begin 2 none, Cond.fieldLink RX1 29 "UnibusMachine$Drive" "left" "I", Cond.fieldLink RX1 32 "UnibusMachine$Drive" "fresh" "Z", Cond.fieldLink RX1 17 "UnibusMachine$Drive" "wrong" "I", Cond.fieldLink RX1 36 "UnibusMachine$Drive" "bits" "I", Cond.fieldLink RX1 39 "UnibusMachine$Drive" "wanting" "Z", Cond.sameField "UnibusMachine$Drive" "UnibusMachine$Line" "wanting" "Z", Cond.methodLink RX0 104 ⟨"UnibusMachine$Drive", "become", "(I)V"⟩, Cond.sameMethod "UnibusMachine$Drive" "UnibusMachine$Line" "become" "(I)V", Cond.selects RX1 ⟨"UnibusMachine$Drive", "become", "(I)V"⟩ yX3_become, Cond.methodLink RX6 144 yX6_writeWord, Cond.instanceMethod yX6_writeWord, Cond.selects RX6 yX6_writeWord yX6_writeWord, Cond.code yX6_writeWord cX6_writeWord 4 none, Cond.fieldLink RX6 27 "UnibusMachine$Processor" "named" "I", Cond.fieldLink RX6 30 "UnibusMachine$Processor" "flags" "I", Cond.methodLink RX6 108 yX6_push, Cond.instanceMethod yX6_push]
def wsX8_run_r7 : List Cond := [Cond.selects RX6 yX6_push yX6_push, Cond.code yX6_push cX6_push 2 none, Cond.methodLink RX6 76 yX6_takeStatus, Cond.instanceMethod yX6_takeStatus, Cond.selects RX6 yX6_takeStatus yX6_takeStatus, Cond.code yX6_takeStatus cX6_takeStatus 3 none, Cond.fieldLink RX6 13 "UnibusMachine$Processor" "otherStack" "I", Cond.fieldLink RX6 17 "UnibusMachine$Processor" "halted" "I", Cond.methodLink RX5 33 ⟨"UnibusMachine$Printer", "become", "(I)V"⟩, Cond.methodLink RX1 46 ⟨"UnibusMachine$Drive", "become", "(I)V"⟩, Cond.methodLink RX6 67 yX6_enter, Cond.instanceMethod yX6_enter, Cond.selects RX6 yX6_enter yX6_enter, Cond.codeWith yX6_enter cX6_enter 3 none [(0, 5, 8, 65)], Cond.methodLink RX6 105 yX6_trap, Cond.instanceMethod yX6_trap, Cond.selects RX6 yX6_trap yX6_trap, Cond.code yX6_trap cX6_trap 6 none, Cond.methodLink RX6 70 yX6_settle, Cond.instanceMethod yX6_settle, Cond.selects RX6 yX6_settle yX6_settle, Cond.code yX6_settle cX6_settle 2 none, Cond.fieldLink RX6 73 "UnibusMachine$Status" "written" "I", Cond.methodLink RX8 76 yX0_goOn]
def wsX8_run_r8 : List Cond := [Cond.instanceMethod yX0_goOn, Cond.selects RX0 yX0_goOn yX0_goOn, Cond.code yX0_goOn cX0_goOn 1 none, Cond.methodLink RX0 113 yX5_goOn, Cond.instanceMethod yX5_goOn, Cond.selects RX5 yX5_goOn yX5_goOn, Cond.code yX5_goOn cX5_goOn 1 none, Cond.fieldLink RX5 9 "UnibusMachine$Printer" "paper" "[I", Cond.fieldLink RX5 13 "UnibusMachine$Printer" "count" "I", Cond.methodLink RX0 116 yX1_goOn, Cond.instanceMethod yX1_goOn, Cond.selects RX1 yX1_goOn yX1_goOn, Cond.code yX1_goOn cX1_goOn 2 none, Cond.methodLink RX1 42 yX1_transfer, Cond.instanceMethod yX1_transfer, Cond.selects RX1 yX1_transfer yX1_transfer, Cond.code yX1_transfer cX1_transfer 5 none, Cond.fieldLink RX1 20 "UnibusMachine$Drive" "count" "I", Cond.fieldLink RX1 23 "UnibusMachine$Drive" "address" "I", Cond.constant RX1 52 (32768), Cond.fieldLink RX1 26 "UnibusMachine$Drive" "sector" "I", Cond.fieldLink RX1 13 "UnibusMachine$Drive" "writing" "I", Cond.fieldLink RX1 9 "UnibusMachine$Drive" "words" "[I", Cond.methodLink RX8 79 yX6_lookForInterrupt]
def wsX8_run_r9 : List Cond := [Cond.instanceMethod yX6_lookForInterrupt, Cond.selects RX6 yX6_lookForInterrupt yX6_lookForInterrupt, Cond.code yX6_lookForInterrupt cX6_lookForInterrupt 4 none, Cond.fieldLink RX6 79 "UnibusMachine$Bus" "drive" "LUnibusMachine$Drive;", Cond.fieldLink RX6 83 "UnibusMachine$Drive" "wanting" "Z", Cond.fieldLink RX6 88 "UnibusMachine$Bus" "keyboard" "LUnibusMachine$Keyboard;", Cond.fieldLink RX6 92 "UnibusMachine$Keyboard" "wanting" "Z", Cond.sameField "UnibusMachine$Keyboard" "UnibusMachine$Line" "wanting" "Z", Cond.fieldLink RX6 95 "UnibusMachine$Bus" "printer" "LUnibusMachine$Printer;", Cond.fieldLink RX6 99 "UnibusMachine$Printer" "wanting" "Z", Cond.fieldLink RX6 102 "UnibusMachine$Line" "wanting" "Z"]
def wsX8_run : List Cond := .code yX8_run cX8_run 3 (some .int) :: ((wsX8_run_r1 ++ (wsX8_run_r2 ++ (wsX8_run_r3 ++ (wsX8_run_r4 ++ (wsX8_run_r5 ++ (wsX8_run_r6 ++ (wsX8_run_r7 ++ (wsX8_run_r8 ++ wsX8_run_r9)))))))) ++ wsX80 ++ wsX60 ++ wsX00 ++ wsX50 ++ wsX10 ++ wsX70 ++ wsX40 ++ wsX20 ++ (vx_at0 RX8 34 "java/lang/IllegalArgumentException" ["java/lang/RuntimeException", "java/lang/Exception"]).filter goodWord ++ (vx_at0 RX8 72 "java/lang/IllegalStateException" ["java/lang/RuntimeException", "java/lang/Exception"]).filter goodWord ++ (vx_at0 RX6 111 "java/lang/UnsupportedOperationException" ["java/lang/RuntimeException", "java/lang/Exception"]).filter goodWord)
