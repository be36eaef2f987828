/-! ===== BEGIN printed: names, fields, word lists, decode rows ===== -/
def RX0 : String := "MeterNetwork$History"
def TX0 : u_T := fun k => match k with
  | 0 => ("MeterNetwork$History", "ring", "[LMeterNetwork$State;", true)
  | 1 => ("MeterNetwork$History", "oldest", "I", false)
  | _ => ("MeterNetwork$History", "size", "I", false)
def tyX0 : Nat → FieldType := fun k => match k with
  | 0 => .array (.object "MeterNetwork$State")
  | 1 => .int
  | _ => .int
abbrev wsX00 : List Cond := u_ws RX0 TX0 3
theorem nmX0 : ∀ a, a < 3 → ∀ b, b < 3 → a ≠ b → (TX0 a).2.1 ≠ (TX0 b).2.1 := by decide +kernel
theorem tyX0_ok : ∀ k, k < 3 → parseFieldDescriptor (TX0 k).2.2.1 = some (tyX0 k) := by decide +kernel
abbrev cX0_init : ByteArray := prog_2_method_1_code
def yX0_init : MethodName := ⟨RX0, "<init>", "()V"⟩
abbrev cX0_save : ByteArray := prog_2_method_2_code
def yX0_save : MethodName := ⟨RX0, "save", "(LMeterNetwork$State;)V"⟩
abbrev cX0_newest : ByteArray := prog_2_method_3_code
def yX0_newest : MethodName := ⟨RX0, "newest", "()LMeterNetwork$State;"⟩
abbrev cX0_removeNewest : ByteArray := prog_2_method_4_code
def yX0_removeNewest : MethodName := ⟨RX0, "removeNewest", "()V"⟩
def RX1 : String := "MeterNetwork$Readings"
def TX1 : u_T := fun k => match k with
  | 0 => ("MeterNetwork$Readings", "meters", "[I", true)
  | 1 => ("MeterNetwork$Readings", "numbers", "[I", true)
  | 2 => ("MeterNetwork$Readings", "values", "[I", true)
  | 3 => ("MeterNetwork$Readings", "times", "[I", true)
  | 4 => ("MeterNetwork$Readings", "taken", "I", false)
  | 5 => ("MeterNetwork$Readings", "sizes", "[I", true)
  | 6 => ("MeterNetwork$Readings", "ids", "[I", true)
  | _ => ("MeterNetwork$Readings", "stamps", "[I", true)
def tyX1 : Nat → FieldType := fun k => match k with
  | 0 => .array .int
  | 1 => .array .int
  | 2 => .array .int
  | 3 => .array .int
  | 4 => .int
  | 5 => .array .int
  | 6 => .array .int
  | _ => .array .int
abbrev wsX10 : List Cond := u_ws RX1 TX1 8
theorem nmX1 : ∀ a, a < 8 → ∀ b, b < 8 → a ≠ b → (TX1 a).2.1 ≠ (TX1 b).2.1 := by decide +kernel
theorem tyX1_ok : ∀ k, k < 8 → parseFieldDescriptor (TX1 k).2.2.1 = some (tyX1 k) := by decide +kernel
abbrev cX1_init : ByteArray := prog_3_method_1_code
def yX1_init : MethodName := ⟨RX1, "<init>", "()V"⟩
abbrev cX1_copyFrom : ByteArray := prog_3_method_2_code
def yX1_copyFrom : MethodName := ⟨RX1, "copyFrom", "(LMeterNetwork$Readings;)V"⟩
abbrev cX1_takeAt : ByteArray := prog_3_method_3_code
def yX1_takeAt : MethodName := ⟨RX1, "takeAt", "(IIII)I"⟩
abbrev cX1_takenAt : ByteArray := prog_3_method_4_code
def yX1_takenAt : MethodName := ⟨RX1, "takenAt", "(I)I"⟩
abbrev cX1_findId : ByteArray := prog_3_method_5_code
def yX1_findId : MethodName := ⟨RX1, "findId", "(II)I"⟩
abbrev cX1_missingCount : ByteArray := prog_3_method_6_code
def yX1_missingCount : MethodName := ⟨RX1, "missingCount", "()I"⟩
abbrev cX1_sizeOf : ByteArray := prog_3_method_7_code
def yX1_sizeOf : MethodName := ⟨RX1, "sizeOf", "(I)I"⟩
abbrev cX1_isFull : ByteArray := prog_3_method_8_code
def yX1_isFull : MethodName := ⟨RX1, "isFull", "(I)Z"⟩
abbrev cX1_idAt : ByteArray := prog_3_method_9_code
def yX1_idAt : MethodName := ⟨RX1, "idAt", "(II)I"⟩
abbrev cX1_stampAt : ByteArray := prog_3_method_10_code
def yX1_stampAt : MethodName := ⟨RX1, "stampAt", "(II)I"⟩
abbrev cX1_partOf : ByteArray := prog_3_method_11_code
def yX1_partOf : MethodName := ⟨RX1, "partOf", "(III)I"⟩
abbrev cX1_holds : ByteArray := prog_3_method_12_code
def yX1_holds : MethodName := ⟨RX1, "holds", "(II)Z"⟩
abbrev cX1_storesWith : ByteArray := prog_3_method_13_code
def yX1_storesWith : MethodName := ⟨RX1, "storesWith", "(I)I"⟩
abbrev cX1_wrongStampCount : ByteArray := prog_3_method_14_code
def yX1_wrongStampCount : MethodName := ⟨RX1, "wrongStampCount", "()I"⟩
abbrev cX1_put : ByteArray := prog_3_method_15_code
def yX1_put : MethodName := ⟨RX1, "put", "(III)V"⟩
abbrev cX1_removeFirst : ByteArray := prog_3_method_16_code
def yX1_removeFirst : MethodName := ⟨RX1, "removeFirst", "(I)V"⟩
abbrev cX1_shiftStamps : ByteArray := prog_3_method_17_code
def yX1_shiftStamps : MethodName := ⟨RX1, "shiftStamps", "(II)V"⟩
def RX2 : String := "MeterNetwork$State"
def TX2 : u_T := fun k => match k with
  | 0 => ("MeterNetwork$State", "linked", "[Z", true)
  | 1 => ("MeterNetwork$State", "on", "[Z", true)
  | 2 => ("MeterNetwork$State", "parents", "[I", true)
  | 3 => ("MeterNetwork$State", "depths", "[I", true)
  | 4 => ("MeterNetwork$State", "lastHeard", "[I", true)
  | 5 => ("MeterNetwork$State", "offsets", "[I", true)
  | 6 => ("MeterNetwork$State", "faultsLeft", "[I", true)
  | 7 => ("MeterNetwork$State", "readings", "LMeterNetwork$Readings;", true)
  | 8 => ("MeterNetwork$State", "now", "I", false)
  | 9 => ("MeterNetwork$State", "patience", "I", false)
  | 10 => ("MeterNetwork$State", "sent", "I", false)
  | 11 => ("MeterNetwork$State", "duplicates", "I", false)
  | 12 => ("MeterNetwork$State", "refused", "I", false)
  | 13 => ("MeterNetwork$State", "lostAcknowledgements", "I", false)
  | _ => ("MeterNetwork$State", "droppedParents", "I", false)
def tyX2 : Nat → FieldType := fun k => match k with
  | 0 => .array .boolean
  | 1 => .array .boolean
  | 2 => .array .int
  | 3 => .array .int
  | 4 => .array .int
  | 5 => .array .int
  | 6 => .array .int
  | 7 => .object "MeterNetwork$Readings"
  | 8 => .int
  | 9 => .int
  | 10 => .int
  | 11 => .int
  | 12 => .int
  | 13 => .int
  | _ => .int
abbrev wsX20 : List Cond := u_ws RX2 TX2 15
theorem nmX2 : ∀ a, a < 15 → ∀ b, b < 15 → a ≠ b → (TX2 a).2.1 ≠ (TX2 b).2.1 := by decide +kernel
theorem tyX2_ok : ∀ k, k < 15 → parseFieldDescriptor (TX2 k).2.2.1 = some (tyX2 k) := by decide +kernel
abbrev cX2_init : ByteArray := prog_4_method_1_code
def yX2_init : MethodName := ⟨RX2, "<init>", "()V"⟩
abbrev cX2_copyFrom : ByteArray := prog_4_method_2_code
def yX2_copyFrom : MethodName := ⟨RX2, "copyFrom", "(LMeterNetwork$State;)V"⟩
abbrev cX2_setLink : ByteArray := prog_4_method_3_code
def yX2_setLink : MethodName := ⟨RX2, "setLink", "(IIZ)V"⟩
abbrev cX2_linkCount : ByteArray := prog_4_method_4_code
def yX2_linkCount : MethodName := ⟨RX2, "linkCount", "()I"⟩
abbrev cX2_isOn : ByteArray := prog_4_method_5_code
def yX2_isOn : MethodName := ⟨RX2, "isOn", "(I)Z"⟩
abbrev cX2_setPower : ByteArray := prog_4_method_6_code
def yX2_setPower : MethodName := ⟨RX2, "setPower", "(IZ)V"⟩
abbrev cX2_onCount : ByteArray := prog_4_method_7_code
def yX2_onCount : MethodName := ⟨RX2, "onCount", "()I"⟩
abbrev cX2_areConnected : ByteArray := prog_4_method_8_code
def yX2_areConnected : MethodName := ⟨RX2, "areConnected", "(II)Z"⟩
abbrev cX2_hopsToCollector : ByteArray := prog_4_method_9_code
def yX2_hopsToCollector : MethodName := ⟨RX2, "hopsToCollector", "(I)I"⟩
abbrev cX2_neighboursOf : ByteArray := prog_4_method_10_code
def yX2_neighboursOf : MethodName := ⟨RX2, "neighboursOf", "(I)I"⟩
abbrev cX2_joinedCount : ByteArray := prog_4_method_11_code
def yX2_joinedCount : MethodName := ⟨RX2, "joinedCount", "()I"⟩
abbrev cX2_canTake : ByteArray := prog_4_method_12_code
def yX2_canTake : MethodName := ⟨RX2, "canTake", "(I)Z"⟩
abbrev cX2_takeReading : ByteArray := prog_4_method_13_code
def yX2_takeReading : MethodName := ⟨RX2, "takeReading", "(II)I"⟩
abbrev cX2_runSlots : ByteArray := prog_4_method_14_code
def yX2_runSlots : MethodName := ⟨RX2, "runSlots", "(I)I"⟩
abbrev cX2_losePatience : ByteArray := prog_4_method_15_code
def yX2_losePatience : MethodName := ⟨RX2, "losePatience", "(I)V"⟩
abbrev cX2_beHeard : ByteArray := prog_4_method_16_code
def yX2_beHeard : MethodName := ⟨RX2, "beHeard", "(I)V"⟩
abbrev cX2_hear : ByteArray := prog_4_method_17_code
def yX2_hear : MethodName := ⟨RX2, "hear", "(II)V"⟩
abbrev cX2_isBetterParent : ByteArray := prog_4_method_18_code
def yX2_isBetterParent : MethodName := ⟨RX2, "isBetterParent", "(II)Z"⟩
abbrev cX2_dropParent : ByteArray := prog_4_method_19_code
def yX2_dropParent : MethodName := ⟨RX2, "dropParent", "(I)V"⟩
abbrev cX2_send : ByteArray := prog_4_method_20_code
def yX2_send : MethodName := ⟨RX2, "send", "(I)V"⟩
abbrev cX2_isAccepted : ByteArray := prog_4_method_21_code
def yX2_isAccepted : MethodName := ⟨RX2, "isAccepted", "(II)Z"⟩
def RX3 : String := "MeterNetwork$TextBuffer"
def TX3 : u_T := fun k => match k with
  | 0 => ("MeterNetwork$TextBuffer", "signs", "[C", true)
  | 1 => ("MeterNetwork$TextBuffer", "length", "I", false)
  | 2 => ("MeterNetwork$TextBuffer", "position", "I", false)
  | 3 => ("MeterNetwork$TextBuffer", "kind", "C", false)
  | 4 => ("MeterNetwork$TextBuffer", "first", "I", false)
  | 5 => ("MeterNetwork$TextBuffer", "second", "I", false)
  | _ => ("MeterNetwork$TextBuffer", "number", "I", false)
def tyX3 : Nat → FieldType := fun k => match k with
  | 0 => .array .char
  | 1 => .int
  | 2 => .int
  | 3 => .char
  | 4 => .int
  | 5 => .int
  | _ => .int
abbrev wsX30 : List Cond := u_ws RX3 TX3 7
theorem nmX3 : ∀ a, a < 7 → ∀ b, b < 7 → a ≠ b → (TX3 a).2.1 ≠ (TX3 b).2.1 := by decide +kernel
theorem tyX3_ok : ∀ k, k < 7 → parseFieldDescriptor (TX3 k).2.2.1 = some (tyX3 k) := by decide +kernel
abbrev cX3_init : ByteArray := prog_5_method_1_code
def yX3_init : MethodName := ⟨RX3, "<init>", "()V"⟩
def RX4 : String := "MeterNetwork"
def TX4 : u_T := fun k => match k with
  | 0 => ("MeterNetwork", "state", "LMeterNetwork$State;", true)
  | 1 => ("MeterNetwork", "trial", "LMeterNetwork$State;", true)
  | 2 => ("MeterNetwork", "history", "LMeterNetwork$History;", true)
  | _ => ("MeterNetwork", "text", "LMeterNetwork$TextBuffer;", true)
def tyX4 : Nat → FieldType := fun k => match k with
  | 0 => .object "MeterNetwork$State"
  | 1 => .object "MeterNetwork$State"
  | 2 => .object "MeterNetwork$History"
  | _ => .object "MeterNetwork$TextBuffer"
abbrev wsX40 : List Cond := u_ws RX4 TX4 4
theorem nmX4 : ∀ a, a < 4 → ∀ b, b < 4 → a ≠ b → (TX4 a).2.1 ≠ (TX4 b).2.1 := by decide +kernel
theorem tyX4_ok : ∀ k, k < 4 → parseFieldDescriptor (TX4 k).2.2.1 = some (tyX4 k) := by decide +kernel
abbrev cX4_init : ByteArray := prog_1_method_1_code
def yX4_init : MethodName := ⟨RX4, "<init>", "()V"⟩
abbrev cX4_link : ByteArray := prog_1_method_2_code
def yX4_link : MethodName := ⟨RX4, "link", "(IIZ)I"⟩
abbrev cX4_power : ByteArray := prog_1_method_3_code
def yX4_power : MethodName := ⟨RX4, "power", "(IZ)I"⟩
abbrev cX4_jump : ByteArray := prog_1_method_4_code
def yX4_jump : MethodName := ⟨RX4, "jump", "(II)I"⟩
abbrev cX4_setFaults : ByteArray := prog_1_method_5_code
def yX4_setFaults : MethodName := ⟨RX4, "setFaults", "(II)I"⟩
abbrev cX4_setPatience : ByteArray := prog_1_method_6_code
def yX4_setPatience : MethodName := ⟨RX4, "setPatience", "(I)I"⟩
abbrev cX4_take : ByteArray := prog_1_method_7_code
def yX4_take : MethodName := ⟨RX4, "take", "(II)I"⟩
abbrev cX4_run : ByteArray := prog_1_method_8_code
def yX4_run : MethodName := ⟨RX4, "run", "(I)I"⟩
abbrev cX4_undo : ByteArray := prog_1_method_14_code
def yX4_undo : MethodName := ⟨RX4, "undo", "()I"⟩
abbrev cX4_isConnected : ByteArray := prog_1_method_15_code
def yX4_isConnected : MethodName := ⟨RX4, "isConnected", "(II)Z"⟩
abbrev cX4_parent : ByteArray := prog_1_method_16_code
def yX4_parent : MethodName := ⟨RX4, "parent", "(I)I"⟩
abbrev cX4_depth : ByteArray := prog_1_method_17_code
def yX4_depth : MethodName := ⟨RX4, "depth", "(I)I"⟩
abbrev cX4_clock : ByteArray := prog_1_method_18_code
def yX4_clock : MethodName := ⟨RX4, "clock", "(I)I"⟩
abbrev cX4_silence : ByteArray := prog_1_method_19_code
def yX4_silence : MethodName := ⟨RX4, "silence", "(I)I"⟩
abbrev cX4_faults : ByteArray := prog_1_method_20_code
def yX4_faults : MethodName := ⟨RX4, "faults", "(I)I"⟩
abbrev cX4_hops : ByteArray := prog_1_method_21_code
def yX4_hops : MethodName := ⟨RX4, "hops", "(I)I"⟩
abbrev cX4_stored : ByteArray := prog_1_method_22_code
def yX4_stored : MethodName := ⟨RX4, "stored", "(I)I"⟩
abbrev cX4_storedReading : ByteArray := prog_1_method_23_code
def yX4_storedReading : MethodName := ⟨RX4, "storedReading", "(III)I"⟩
abbrev cX4_collected : ByteArray := prog_1_method_24_code
def yX4_collected : MethodName := ⟨RX4, "collected", "()I"⟩
abbrev cX4_collectedReading : ByteArray := prog_1_method_25_code
def yX4_collectedReading : MethodName := ⟨RX4, "collectedReading", "(II)I"⟩
abbrev cX4_copies : ByteArray := prog_1_method_26_code
def yX4_copies : MethodName := ⟨RX4, "copies", "(II)I"⟩
abbrev cX4_missing : ByteArray := prog_1_method_27_code
def yX4_missing : MethodName := ⟨RX4, "missing", "()I"⟩
abbrev cX4_wrongStamps : ByteArray := prog_1_method_28_code
def yX4_wrongStamps : MethodName := ⟨RX4, "wrongStamps", "()I"⟩
abbrev cX4_slotsToCollect : ByteArray := prog_1_method_29_code
def yX4_slotsToCollect : MethodName := ⟨RX4, "slotsToCollect", "()I"⟩
abbrev cX4_ifRun : ByteArray := prog_1_method_30_code
def yX4_ifRun : MethodName := ⟨RX4, "ifRun", "(I)I"⟩
abbrev cX4_time : ByteArray := prog_1_method_31_code
def yX4_time : MethodName := ⟨RX4, "time", "()I"⟩
abbrev cX4_count : ByteArray := prog_1_method_32_code
def yX4_count : MethodName := ⟨RX4, "count", "(I)I"⟩
abbrev cX4_joined : ByteArray := prog_1_method_33_code
def yX4_joined : MethodName := ⟨RX4, "joined", "()D"⟩
abbrev cX4_savedStates : ByteArray := prog_1_method_34_code
def yX4_savedStates : MethodName := ⟨RX4, "savedStates", "()I"⟩
abbrev cX4_isNode : ByteArray := prog_1_method_36_code
def yX4_isNode : MethodName := ⟨RX4, "isNode", "(I)Z"⟩
abbrev cX4_checkNode : ByteArray := prog_1_method_37_code
def yX4_checkNode : MethodName := ⟨RX4, "checkNode", "(I)V"⟩
abbrev cX4_checkMeter : ByteArray := prog_1_method_38_code
def yX4_checkMeter : MethodName := ⟨RX4, "checkMeter", "(I)V"⟩
abbrev cX4_checkIndex : ByteArray := prog_1_method_39_code
def yX4_checkIndex : MethodName := ⟨RX4, "checkIndex", "(I)V"⟩
abbrev cX4_checkRange : ByteArray := prog_1_method_40_code
def yX4_checkRange : MethodName := ⟨RX4, "checkRange", "(III)V"⟩
abbrev cX4_copyRow : ByteArray := prog_1_method_41_code
def yX4_copyRow : MethodName := ⟨RX4, "copyRow", "([I[I)V"⟩
abbrev cX4_copyRow_ : ByteArray := prog_1_method_42_code
def yX4_copyRow_ : MethodName := ⟨RX4, "copyRow", "([Z[Z)V"⟩
def RX5 : String := "MeterNetworkModel"
def TX5 : u_T := fun k => match k with
  | _ => ("", "", "", false)
def tyX5 : Nat → FieldType := fun k => match k with
  | _ => .int
abbrev wsX50 : List Cond := u_ws RX5 TX5 0
theorem nmX5 : ∀ a, a < 0 → ∀ b, b < 0 → a ≠ b → (TX5 a).2.1 ≠ (TX5 b).2.1 := by decide +kernel
theorem tyX5_ok : ∀ k, k < 0 → parseFieldDescriptor (TX5 k).2.2.1 = some (tyX5 k) := by decide +kernel
def RJ9 : String := "java/lang/Math"
def TJ9 : u_T := fun k => match k with
  | _ => ("", "", "", false)
def tyJ9 : Nat → FieldType := fun k => match k with
  | _ => .int
abbrev wsJ90 : List Cond := u_ws RJ9 TJ9 0
theorem nmJ9 : ∀ a, a < 0 → ∀ b, b < 0 → a ≠ b → (TJ9 a).2.1 ≠ (TJ9 b).2.1 := by decide +kernel
theorem tyJ9_ok : ∀ k, k < 0 → parseFieldDescriptor (TJ9 k).2.2.1 = some (tyJ9 k) := by decide +kernel
abbrev cJ9_floorMod_7cf53 : ByteArray := prog_12_method_50_code
def yJ9_floorMod_7cf53 : MethodName := ⟨RJ9, "floorMod", "(II)I"⟩
abbrev cJ9_min_7cf53 : ByteArray := prog_12_method_69_code
def yJ9_min_7cf53 : MethodName := ⟨RJ9, "min", "(II)I"⟩
def RJ0 : String := "java/lang/String"
def TJ0 : u_T := fun k => match k with
  | _ => ("", "", "", false)
def tyJ0 : Nat → FieldType := fun k => match k with
  | _ => .int
abbrev wsJ00 : List Cond := u_ws RJ0 TJ0 0
theorem nmJ0 : ∀ a, a < 0 → ∀ b, b < 0 → a ≠ b → (TJ0 a).2.1 ≠ (TJ0 b).2.1 := by decide +kernel
theorem tyJ0_ok : ∀ k, k < 0 → parseFieldDescriptor (TJ0 k).2.2.1 = some (tyJ0 k) := by decide +kernel
def RJ10 : String := "java/lang/System"
def TJ10 : u_T := fun k => match k with
  | _ => ("", "", "", false)
def tyJ10 : Nat → FieldType := fun k => match k with
  | _ => .int
abbrev wsJ100 : List Cond := u_ws RJ10 TJ10 0
theorem nmJ10 : ∀ a, a < 0 → ∀ b, b < 0 → a ≠ b → (TJ10 a).2.1 ≠ (TJ10 b).2.1 := by decide +kernel
theorem tyJ10_ok : ∀ k, k < 0 → parseFieldDescriptor (TJ10 k).2.2.1 = some (tyJ10 k) := by decide +kernel
def RL : String := "MeterNetworkLaw"
abbrev cL_at : ByteArray := method_2_code
def yL_at : MethodName := ⟨RL, "at", "([II)I"⟩
abbrev cL_low : ByteArray := method_3_code
def yL_low : MethodName := ⟨RL, "low", "(II)I"⟩
abbrev cL_link : ByteArray := method_4_code
def yL_link : MethodName := ⟨RL, "link", "(LMeterNetwork;IIZ)I"⟩
abbrev cL_power : ByteArray := method_5_code
def yL_power : MethodName := ⟨RL, "power", "(LMeterNetwork;IZ)I"⟩
abbrev cL_jump : ByteArray := method_6_code
def yL_jump : MethodName := ⟨RL, "jump", "(LMeterNetwork;II)I"⟩
abbrev cL_setFaults : ByteArray := method_7_code
def yL_setFaults : MethodName := ⟨RL, "setFaults", "(LMeterNetwork;II)I"⟩
abbrev cL_setPatience : ByteArray := method_8_code
def yL_setPatience : MethodName := ⟨RL, "setPatience", "(LMeterNetwork;I)I"⟩
abbrev cL_take : ByteArray := method_9_code
def yL_take : MethodName := ⟨RL, "take", "(LMeterNetwork;II)I"⟩
abbrev cL_run : ByteArray := method_10_code
def yL_run : MethodName := ⟨RL, "run", "(LMeterNetwork;I)I"⟩
abbrev cL_undo : ByteArray := method_11_code
def yL_undo : MethodName := ⟨RL, "undo", "(LMeterNetwork;)I"⟩
abbrev cL_parent : ByteArray := method_12_code
def yL_parent : MethodName := ⟨RL, "parent", "(LMeterNetwork;I)I"⟩
abbrev cL_depth : ByteArray := method_13_code
def yL_depth : MethodName := ⟨RL, "depth", "(LMeterNetwork;I)I"⟩
abbrev cL_clock : ByteArray := method_14_code
def yL_clock : MethodName := ⟨RL, "clock", "(LMeterNetwork;I)I"⟩
abbrev cL_silence : ByteArray := method_15_code
def yL_silence : MethodName := ⟨RL, "silence", "(LMeterNetwork;I)I"⟩
abbrev cL_faults : ByteArray := method_16_code
def yL_faults : MethodName := ⟨RL, "faults", "(LMeterNetwork;I)I"⟩
abbrev cL_hops : ByteArray := method_17_code
def yL_hops : MethodName := ⟨RL, "hops", "(LMeterNetwork;I)I"⟩
abbrev cL_stored : ByteArray := method_18_code
def yL_stored : MethodName := ⟨RL, "stored", "(LMeterNetwork;I)I"⟩
abbrev cL_storedReading : ByteArray := method_19_code
def yL_storedReading : MethodName := ⟨RL, "storedReading", "(LMeterNetwork;III)I"⟩
abbrev cL_collectedReading : ByteArray := method_20_code
def yL_collectedReading : MethodName := ⟨RL, "collectedReading", "(LMeterNetwork;II)I"⟩
abbrev cL_copies : ByteArray := method_21_code
def yL_copies : MethodName := ⟨RL, "copies", "(LMeterNetwork;II)I"⟩
abbrev cL_ifRun : ByteArray := method_22_code
def yL_ifRun : MethodName := ⟨RL, "ifRun", "(LMeterNetwork;I)I"⟩
abbrev cL_count : ByteArray := method_23_code
def yL_count : MethodName := ⟨RL, "count", "(LMeterNetwork;I)I"⟩
abbrev cL_act : ByteArray := method_24_code
def yL_act : MethodName := ⟨RL, "act", "(LMeterNetwork;II)I"⟩
abbrev cL_nodes : ByteArray := method_25_code
def yL_nodes : MethodName := ⟨RL, "nodes", "(LMeterNetwork;)Z"⟩
abbrev cL_readings : ByteArray := method_26_code
def yL_readings : MethodName := ⟨RL, "readings", "(LMeterNetwork;)Z"⟩
abbrev cL_print : ByteArray := method_27_code
def yL_print : MethodName := ⟨RL, "print", "(LMeterNetwork;)J"⟩
abbrev cL_runs : ByteArray := method_28_code
def yL_runs : MethodName := ⟨RL, "runs", "(LMeterNetwork;I)Z"⟩
abbrev cL_joins : ByteArray := method_29_code
def yL_joins : MethodName := ⟨RL, "joins", "(LMeterNetwork;I)Z"⟩
abbrev cL_law : ByteArray := code
def yL_law : MethodName := ⟨RL, "law", "([I)Z"⟩
def wsJ9_floorMod_7cf53 : List Cond := .code yJ9_floorMod_7cf53 cJ9_floorMod_7cf53 3 (some .int) :: ([])
def wsJ9_min_7cf53 : List Cond := .code yJ9_min_7cf53 cJ9_min_7cf53 2 (some .int) :: ([])
theorem dJ9_floorMod_7cf53_0 : decode cJ9_floorMod_7cf53 0 = .ok (.iload_n 0, 1) := by decide +kernel
theorem dJ9_floorMod_7cf53_1 : decode cJ9_floorMod_7cf53 1 = .ok (.iload_n 1, 1) := by decide +kernel
theorem dJ9_floorMod_7cf53_2 : decode cJ9_floorMod_7cf53 2 = .ok (.irem, 1) := by decide +kernel
theorem dJ9_floorMod_7cf53_3 : decode cJ9_floorMod_7cf53 3 = .ok (.istore_n 2, 1) := by decide +kernel
theorem dJ9_floorMod_7cf53_4 : decode cJ9_floorMod_7cf53 4 = .ok (.iload_n 0, 1) := by decide +kernel
theorem dJ9_floorMod_7cf53_5 : decode cJ9_floorMod_7cf53 5 = .ok (.iload_n 1, 1) := by decide +kernel
theorem dJ9_floorMod_7cf53_6 : decode cJ9_floorMod_7cf53 6 = .ok (.ixor, 1) := by decide +kernel
theorem dJ9_floorMod_7cf53_7 : decode cJ9_floorMod_7cf53 7 = .ok (.ifCond .ge 11, 3) := by decide +kernel
theorem dJ9_floorMod_7cf53_10 : decode cJ9_floorMod_7cf53 10 = .ok (.iload_n 2, 1) := by decide +kernel
theorem dJ9_floorMod_7cf53_11 : decode cJ9_floorMod_7cf53 11 = .ok (.ifCond .eq 7, 3) := by decide +kernel
theorem dJ9_floorMod_7cf53_14 : decode cJ9_floorMod_7cf53 14 = .ok (.iload_n 2, 1) := by decide +kernel
theorem dJ9_floorMod_7cf53_15 : decode cJ9_floorMod_7cf53 15 = .ok (.iload_n 1, 1) := by decide +kernel
theorem dJ9_floorMod_7cf53_16 : decode cJ9_floorMod_7cf53 16 = .ok (.iadd, 1) := by decide +kernel
theorem dJ9_floorMod_7cf53_17 : decode cJ9_floorMod_7cf53 17 = .ok (.ireturn, 1) := by decide +kernel
theorem dJ9_floorMod_7cf53_18 : decode cJ9_floorMod_7cf53 18 = .ok (.iload_n 2, 1) := by decide +kernel
theorem dJ9_floorMod_7cf53_19 : decode cJ9_floorMod_7cf53 19 = .ok (.ireturn, 1) := by decide +kernel
theorem dJ9_min_7cf53_0 : decode cJ9_min_7cf53 0 = .ok (.iload_n 0, 1) := by decide +kernel
theorem dJ9_min_7cf53_1 : decode cJ9_min_7cf53 1 = .ok (.iload_n 1, 1) := by decide +kernel
theorem dJ9_min_7cf53_2 : decode cJ9_min_7cf53 2 = .ok (.if_icmp .gt 7, 3) := by decide +kernel
theorem dJ9_min_7cf53_5 : decode cJ9_min_7cf53 5 = .ok (.iload_n 0, 1) := by decide +kernel
theorem dJ9_min_7cf53_6 : decode cJ9_min_7cf53 6 = .ok (.goto 4, 3) := by decide +kernel
theorem dJ9_min_7cf53_9 : decode cJ9_min_7cf53 9 = .ok (.iload_n 1, 1) := by decide +kernel
theorem dJ9_min_7cf53_10 : decode cJ9_min_7cf53 10 = .ok (.ireturn, 1) := by decide +kernel
abbrev vwCl : List vw_C := [(RX0, TX0, 3), (RX1, TX1, 8), (RX2, TX2, 15), (RX3, TX3, 7), (RX4, TX4, 4)]
