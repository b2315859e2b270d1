-- ===== PART A: goes FIRST, ahead of the names: the tables' words, and 'selects' of the private methods out of them =====
/-- a private method of a class that the tables say can be made, by its rows of tables_1 -/
def lw_okq (q : MethodName × Nat) : Prop := (q.1.cls ≠ "java/lang/invoke/MethodHandle" ∧ q.1.cls ≠ "java/lang/invoke/VarHandle") ∧ Cond.instantiable q.1.cls q.2 ∈ tables_1 ∧ Cond.privateMethod q.1 ∈ tables_1 ∧ Cond.instanceMethod q.1 ∈ tables_1
theorem lw_p0 : lw_okq (⟨"AppendZones$History", "slotBehind", "()LAppendZones$State;"⟩, 3) := ⟨⟨by decide +kernel, by decide +kernel⟩, List.mem_of_getElem? (i := 156) (by decide +kernel), List.mem_of_getElem? (i := 232) (by decide +kernel), List.mem_of_getElem? (i := 233) (by decide +kernel)⟩
theorem lw_p1 : lw_okq (⟨"AppendZones$State", "letOnePass", "()V"⟩, 8) := ⟨⟨by decide +kernel, by decide +kernel⟩, List.mem_of_getElem? (i := 17) (by decide +kernel), List.mem_of_getElem? (i := 260) (by decide +kernel), List.mem_of_getElem? (i := 261) (by decide +kernel)⟩
theorem lw_p2 : lw_okq (⟨"AppendZones$State", "tellDue", "()V"⟩, 8) := ⟨⟨by decide +kernel, by decide +kernel⟩, List.mem_of_getElem? (i := 17) (by decide +kernel), List.mem_of_getElem? (i := 264) (by decide +kernel), List.mem_of_getElem? (i := 265) (by decide +kernel)⟩
theorem lw_p3 : lw_okq (⟨"AppendZones$State", "putInOrder", "()I"⟩, 8) := ⟨⟨by decide +kernel, by decide +kernel⟩, List.mem_of_getElem? (i := 17) (by decide +kernel), List.mem_of_getElem? (i := 277) (by decide +kernel), List.mem_of_getElem? (i := 278) (by decide +kernel)⟩
theorem lw_p4 : lw_okq (⟨"AppendZones$State", "hasBegun", "(I)Z"⟩, 8) := ⟨⟨by decide +kernel, by decide +kernel⟩, List.mem_of_getElem? (i := 17) (by decide +kernel), List.mem_of_getElem? (i := 281) (by decide +kernel), List.mem_of_getElem? (i := 282) (by decide +kernel)⟩
theorem lw_p5 : lw_okq (⟨"AppendZones$State", "couldOpen", "(I)Z"⟩, 8) := ⟨⟨by decide +kernel, by decide +kernel⟩, List.mem_of_getElem? (i := 17) (by decide +kernel), List.mem_of_getElem? (i := 293) (by decide +kernel), List.mem_of_getElem? (i := 294) (by decide +kernel)⟩
theorem lw_p6 : lw_okq (⟨"AppendZones$State", "longestIdle", "()I"⟩, 8) := ⟨⟨by decide +kernel, by decide +kernel⟩, List.mem_of_getElem? (i := 17) (by decide +kernel), List.mem_of_getElem? (i := 305) (by decide +kernel), List.mem_of_getElem? (i := 306) (by decide +kernel)⟩
theorem lw_p7 : lw_okq (⟨"AppendZones$State", "changeOpenLimit", "(I)I"⟩, 8) := ⟨⟨by decide +kernel, by decide +kernel⟩, List.mem_of_getElem? (i := 17) (by decide +kernel), List.mem_of_getElem? (i := 418) (by decide +kernel), List.mem_of_getElem? (i := 419) (by decide +kernel)⟩
theorem lw_p8 : lw_okq (⟨"AppendZones$State", "changeUseLimit", "(I)I"⟩, 8) := ⟨⟨by decide +kernel, by decide +kernel⟩, List.mem_of_getElem? (i := 17) (by decide +kernel), List.mem_of_getElem? (i := 422) (by decide +kernel), List.mem_of_getElem? (i := 423) (by decide +kernel)⟩
theorem lw_p9 : lw_okq (⟨"AppendZones$State", "changeChannels", "(I)I"⟩, 8) := ⟨⟨by decide +kernel, by decide +kernel⟩, List.mem_of_getElem? (i := 17) (by decide +kernel), List.mem_of_getElem? (i := 426) (by decide +kernel), List.mem_of_getElem? (i := 427) (by decide +kernel)⟩
theorem lw_p10 : lw_okq (⟨"AppendZones$State", "changeManner", "(I)I"⟩, 8) := ⟨⟨by decide +kernel, by decide +kernel⟩, List.mem_of_getElem? (i := 17) (by decide +kernel), List.mem_of_getElem? (i := 430) (by decide +kernel), List.mem_of_getElem? (i := 431) (by decide +kernel)⟩
theorem lw_p11 : lw_okq (⟨"AppendZones$State", "readableFromStart", "(I)I"⟩, 8) := ⟨⟨by decide +kernel, by decide +kernel⟩, List.mem_of_getElem? (i := 17) (by decide +kernel), List.mem_of_getElem? (i := 473) (by decide +kernel), List.mem_of_getElem? (i := 474) (by decide +kernel)⟩
def lw_privs_1 : List (MethodName × Nat) := [(⟨"AppendZones$History", "slotBehind", "()LAppendZones$State;"⟩, 3), (⟨"AppendZones$State", "letOnePass", "()V"⟩, 8), (⟨"AppendZones$State", "tellDue", "()V"⟩, 8), (⟨"AppendZones$State", "putInOrder", "()I"⟩, 8), (⟨"AppendZones$State", "hasBegun", "(I)Z"⟩, 8), (⟨"AppendZones$State", "couldOpen", "(I)Z"⟩, 8), (⟨"AppendZones$State", "longestIdle", "()I"⟩, 8), (⟨"AppendZones$State", "changeOpenLimit", "(I)I"⟩, 8), (⟨"AppendZones$State", "changeUseLimit", "(I)I"⟩, 8), (⟨"AppendZones$State", "changeChannels", "(I)I"⟩, 8), (⟨"AppendZones$State", "changeManner", "(I)I"⟩, 8), (⟨"AppendZones$State", "readableFromStart", "(I)I"⟩, 8)]
theorem lw_r1 : ∀ q ∈ lw_privs_1, lw_okq q := List.forall_mem_cons.mpr ⟨lw_p0, List.forall_mem_cons.mpr ⟨lw_p1, List.forall_mem_cons.mpr ⟨lw_p2, List.forall_mem_cons.mpr ⟨lw_p3, List.forall_mem_cons.mpr ⟨lw_p4, List.forall_mem_cons.mpr ⟨lw_p5, List.forall_mem_cons.mpr ⟨lw_p6, List.forall_mem_cons.mpr ⟨lw_p7, List.forall_mem_cons.mpr ⟨lw_p8, List.forall_mem_cons.mpr ⟨lw_p9, List.forall_mem_cons.mpr ⟨lw_p10, List.forall_mem_cons.mpr ⟨lw_p11, fun _ h => absurd h List.not_mem_nil⟩⟩⟩⟩⟩⟩⟩⟩⟩⟩⟩⟩
def lw_privs : List (MethodName × Nat) := lw_privs_1
def lw_tbl : List Cond := k2_sels lw_privs ++ tables_1
theorem lw_privs_ok : ∀ q ∈ lw_privs, lw_okq q := lw_r1

def RX0 : String := "AppendZones$Appends"
def TX0 : u_T := fun k => match k with
  | 0 => ("AppendZones$Appends", "writerOf", "[I", true)
  | 1 => ("AppendZones$Appends", "zoneOf", "[I", true)
  | 2 => ("AppendZones$Appends", "valueOf", "[I", true)
  | 3 => ("AppendZones$Appends", "phaseOf", "[I", true)
  | 4 => ("AppendZones$Appends", "placeOf", "[I", true)
  | 5 => ("AppendZones$Appends", "tickOf", "[I", true)
  | 6 => ("AppendZones$Appends", "reasonOf", "[I", true)
  | 7 => ("AppendZones$Appends", "generationOf", "[I", true)
  | 8 => ("AppendZones$Appends", "sent", "I", false)
  | 9 => ("AppendZones$Appends", "toldOrder", "[I", true)
  | 10 => ("AppendZones$Appends", "toldSoFar", "I", false)
  | 11 => ("AppendZones$Appends", "live", "[I", true)
  | _ => ("AppendZones$Appends", "liveCount", "I", false)
def tyX0 : Nat → FieldType := fun k => match k with
  | 0 => .array .int
  | 1 => .array .int
  | 2 => .array .int
  | 3 => .array .int
  | 4 => .array .int
  | 5 => .array .int
  | 6 => .array .int
  | 7 => .array .int
  | 8 => .int
  | 9 => .array .int
  | 10 => .int
  | 11 => .array .int
  | _ => .int
abbrev wsX00 : List Cond := u_ws RX0 TX0 13
theorem nmX0 : ∀ a, a < 13 → ∀ b, b < 13 → a ≠ b → (TX0 a).2.1 ≠ (TX0 b).2.1 := by decide +kernel
theorem tyX0_ok : ∀ k, k < 13 → parseFieldDescriptor (TX0 k).2.2.1 = some (tyX0 k) := by decide +kernel
abbrev cX0_init : ByteArray := prog_2_method_1_code
def yX0_init : MethodName := ⟨RX0, "<init>", "()V"⟩
abbrev cX0_copyFrom : ByteArray := prog_2_method_2_code
def yX0_copyFrom : MethodName := ⟨RX0, "copyFrom", "(LAppendZones$Appends;)V"⟩
abbrev cX0_isNumber : ByteArray := prog_2_method_3_code
def yX0_isNumber : MethodName := ⟨RX0, "isNumber", "(I)Z"⟩
abbrev cX0_isLive : ByteArray := prog_2_method_4_code
def yX0_isLive : MethodName := ⟨RX0, "isLive", "(I)Z"⟩
abbrev cX0_add : ByteArray := prog_2_method_5_code
def yX0_add : MethodName := ⟨RX0, "add", "(III)I"⟩
abbrev cX0_begin : ByteArray := prog_2_method_6_code
def yX0_begin : MethodName := ⟨RX0, "begin", "(IIII)V"⟩
abbrev cX0_markTold : ByteArray := prog_2_method_7_code
def yX0_markTold : MethodName := ⟨RX0, "markTold", "(I)V"⟩
abbrev cX0_markFailed : ByteArray := prog_2_method_8_code
def yX0_markFailed : MethodName := ⟨RX0, "markFailed", "(II)V"⟩
abbrev cX0_failInZone : ByteArray := prog_2_method_9_code
def yX0_failInZone : MethodName := ⟨RX0, "failInZone", "(III)I"⟩
abbrev cX0_dropEnded : ByteArray := prog_2_method_10_code
def yX0_dropEnded : MethodName := ⟨RX0, "dropEnded", "()V"⟩
abbrev cX0_liveIn : ByteArray := prog_2_method_11_code
def yX0_liveIn : MethodName := ⟨RX0, "liveIn", "(I)I"⟩
abbrev cX0_liveInZone : ByteArray := prog_2_method_12_code
def yX0_liveInZone : MethodName := ⟨RX0, "liveInZone", "(II)I"⟩
abbrev cX0_ofWriter : ByteArray := prog_2_method_13_code
def yX0_ofWriter : MethodName := ⟨RX0, "ofWriter", "(II)I"⟩
abbrev cX0_isAhead : ByteArray := prog_2_method_14_code
def yX0_isAhead : MethodName := ⟨RX0, "isAhead", "(I)Z"⟩
abbrev cX0_toldInGeneration : ByteArray := prog_2_method_15_code
def yX0_toldInGeneration : MethodName := ⟨RX0, "toldInGeneration", "(II)I"⟩
abbrev cX0_holderOf : ByteArray := prog_2_method_16_code
def yX0_holderOf : MethodName := ⟨RX0, "holderOf", "(III)I"⟩
abbrev cX0_toldAt : ByteArray := prog_2_method_17_code
def yX0_toldAt : MethodName := ⟨RX0, "toldAt", "(I)I"⟩
abbrev cX0_tellAppend : ByteArray := prog_2_method_18_code
def yX0_tellAppend : MethodName := ⟨RX0, "tellAppend", "(II)I"⟩
def RX1 : String := "AppendZones$History"
def TX1 : u_T := fun k => match k with
  | 0 => ("AppendZones$History", "slots", "[LAppendZones$State;", true)
  | 1 => ("AppendZones$History", "oldest", "I", false)
  | _ => ("AppendZones$History", "kept", "I", false)
def tyX1 : Nat → FieldType := fun k => match k with
  | 0 => .array (.object "AppendZones$State")
  | 1 => .int
  | _ => .int
abbrev wsX10 : List Cond := u_ws RX1 TX1 3
theorem nmX1 : ∀ a, a < 3 → ∀ b, b < 3 → a ≠ b → (TX1 a).2.1 ≠ (TX1 b).2.1 := by decide +kernel
theorem tyX1_ok : ∀ k, k < 3 → parseFieldDescriptor (TX1 k).2.2.1 = some (tyX1 k) := by decide +kernel
abbrev cX1_init : ByteArray := prog_3_method_1_code
def yX1_init : MethodName := ⟨RX1, "<init>", "()V"⟩
abbrev cX1_slotBehind : ByteArray := prog_3_method_2_code
def yX1_slotBehind : MethodName := ⟨RX1, "slotBehind", "()LAppendZones$State;"⟩
abbrev cX1_draft : ByteArray := prog_3_method_3_code
def yX1_draft : MethodName := ⟨RX1, "draft", "(LAppendZones$State;)LAppendZones$State;"⟩
abbrev cX1_settle : ByteArray := prog_3_method_5_code
def yX1_settle : MethodName := ⟨RX1, "settle", "(I)I"⟩
abbrev cX1_stepBack : ByteArray := prog_3_method_6_code
def yX1_stepBack : MethodName := ⟨RX1, "stepBack", "(LAppendZones$State;)I"⟩
def RX2 : String := "AppendZones$OrderText"
def TX2 : u_T := fun k => match k with
  | 0 => ("AppendZones$OrderText", "signs", "[C", true)
  | _ => ("AppendZones$OrderText", "length", "I", false)
def tyX2 : Nat → FieldType := fun k => match k with
  | 0 => .array .char
  | _ => .int
abbrev wsX20 : List Cond := u_ws RX2 TX2 2
theorem nmX2 : ∀ a, a < 2 → ∀ b, b < 2 → a ≠ b → (TX2 a).2.1 ≠ (TX2 b).2.1 := by decide +kernel
theorem tyX2_ok : ∀ k, k < 2 → parseFieldDescriptor (TX2 k).2.2.1 = some (tyX2 k) := by decide +kernel
abbrev cX2_init : ByteArray := prog_4_method_1_code
def yX2_init : MethodName := ⟨RX2, "<init>", "()V"⟩
def RX3 : String := "AppendZones$State"
def TX3 : u_T := fun k => match k with
  | 0 => ("AppendZones$State", "appends", "LAppendZones$Appends;", true)
  | 1 => ("AppendZones$State", "zones", "LAppendZones$Zones;", true)
  | 2 => ("AppendZones$State", "windowOf", "[I", true)
  | 3 => ("AppendZones$State", "aheadOf", "[I", true)
  | 4 => ("AppendZones$State", "order", "[I", true)
  | 5 => ("AppendZones$State", "channels", "I", false)
  | 6 => ("AppendZones$State", "manner", "I", false)
  | _ => ("AppendZones$State", "tick", "I", false)
def tyX3 : Nat → FieldType := fun k => match k with
  | 0 => .object "AppendZones$Appends"
  | 1 => .object "AppendZones$Zones"
  | 2 => .array .int
  | 3 => .array .int
  | 4 => .array .int
  | 5 => .int
  | 6 => .int
  | _ => .int
abbrev wsX30 : List Cond := u_ws RX3 TX3 8
theorem nmX3 : ∀ a, a < 8 → ∀ b, b < 8 → a ≠ b → (TX3 a).2.1 ≠ (TX3 b).2.1 := by decide +kernel
theorem tyX3_ok : ∀ k, k < 8 → parseFieldDescriptor (TX3 k).2.2.1 = some (tyX3 k) := by decide +kernel
abbrev cX3_init : ByteArray := prog_5_method_1_code
def yX3_init : MethodName := ⟨RX3, "<init>", "()V"⟩
abbrev cX3_copyFrom : ByteArray := prog_5_method_2_code
def yX3_copyFrom : MethodName := ⟨RX3, "copyFrom", "(LAppendZones$State;)V"⟩
abbrev cX3_changeNumber : ByteArray := prog_5_method_3_code
def yX3_changeNumber : MethodName := ⟨RX3, "changeNumber", "(II)I"⟩
abbrev cX3_changeOpenLimit : ByteArray := prog_5_method_4_code
def yX3_changeOpenLimit : MethodName := ⟨RX3, "changeOpenLimit", "(I)I"⟩
abbrev cX3_changeUseLimit : ByteArray := prog_5_method_5_code
def yX3_changeUseLimit : MethodName := ⟨RX3, "changeUseLimit", "(I)I"⟩
abbrev cX3_changeChannels : ByteArray := prog_5_method_6_code
def yX3_changeChannels : MethodName := ⟨RX3, "changeChannels", "(I)I"⟩
abbrev cX3_changeManner : ByteArray := prog_5_method_7_code
def yX3_changeManner : MethodName := ⟨RX3, "changeManner", "(I)I"⟩
abbrev cX3_changeDelay : ByteArray := prog_5_method_8_code
def yX3_changeDelay : MethodName := ⟨RX3, "changeDelay", "(II)I"⟩
abbrev cX3_changeCapacity : ByteArray := prog_5_method_9_code
def yX3_changeCapacity : MethodName := ⟨RX3, "changeCapacity", "(II)I"⟩
abbrev cX3_changeWindow : ByteArray := prog_5_method_10_code
def yX3_changeWindow : MethodName := ⟨RX3, "changeWindow", "(II)I"⟩
abbrev cX3_send : ByteArray := prog_5_method_11_code
def yX3_send : MethodName := ⟨RX3, "send", "(III)I"⟩
abbrev cX3_wipe : ByteArray := prog_5_method_12_code
def yX3_wipe : MethodName := ⟨RX3, "wipe", "(I)I"⟩
abbrev cX3_fill : ByteArray := prog_5_method_13_code
def yX3_fill : MethodName := ⟨RX3, "fill", "(I)I"⟩
abbrev cX3_shut : ByteArray := prog_5_method_14_code
def yX3_shut : MethodName := ⟨RX3, "shut", "(I)I"⟩
abbrev cX3_letPass : ByteArray := prog_5_method_15_code
def yX3_letPass : MethodName := ⟨RX3, "letPass", "(I)I"⟩
abbrev cX3_letOnePass : ByteArray := prog_5_method_16_code
def yX3_letOnePass : MethodName := ⟨RX3, "letOnePass", "()V"⟩
abbrev cX3_tellDue : ByteArray := prog_5_method_17_code
def yX3_tellDue : MethodName := ⟨RX3, "tellDue", "()V"⟩
abbrev cX3_putInOrder : ByteArray := prog_5_method_18_code
def yX3_putInOrder : MethodName := ⟨RX3, "putInOrder", "()I"⟩
abbrev cX3_hasBegun : ByteArray := prog_5_method_19_code
def yX3_hasBegun : MethodName := ⟨RX3, "hasBegun", "(I)Z"⟩
abbrev cX3_couldOpen : ByteArray := prog_5_method_20_code
def yX3_couldOpen : MethodName := ⟨RX3, "couldOpen", "(I)Z"⟩
abbrev cX3_longestIdle : ByteArray := prog_5_method_21_code
def yX3_longestIdle : MethodName := ⟨RX3, "longestIdle", "()I"⟩
abbrev cX3_ticksUntilTold : ByteArray := prog_5_method_22_code
def yX3_ticksUntilTold : MethodName := ⟨RX3, "ticksUntilTold", "(I)I"⟩
abbrev cX3_blockAt : ByteArray := prog_5_method_23_code
def yX3_blockAt : MethodName := ⟨RX3, "blockAt", "(II)I"⟩
abbrev cX3_tellZone : ByteArray := prog_5_method_24_code
def yX3_tellZone : MethodName := ⟨RX3, "tellZone", "(II)I"⟩
abbrev cX3_readableFromStart : ByteArray := prog_5_method_25_code
def yX3_readableFromStart : MethodName := ⟨RX3, "readableFromStart", "(I)I"⟩
abbrev cX3_tellWriter : ByteArray := prog_5_method_26_code
def yX3_tellWriter : MethodName := ⟨RX3, "tellWriter", "(II)I"⟩
abbrev cX3_tellNumber : ByteArray := prog_5_method_27_code
def yX3_tellNumber : MethodName := ⟨RX3, "tellNumber", "(I)I"⟩
def RX4 : String := "AppendZones$Zones"
def TX4 : u_T := fun k => match k with
  | 0 => ("AppendZones$Zones", "phaseOf", "[I", true)
  | 1 => ("AppendZones$Zones", "capacityOf", "[I", true)
  | 2 => ("AppendZones$Zones", "delayOf", "[I", true)
  | 3 => ("AppendZones$Zones", "pointerOf", "[I", true)
  | 4 => ("AppendZones$Zones", "generationOf", "[I", true)
  | 5 => ("AppendZones$Zones", "latestEventOf", "[I", true)
  | 6 => ("AppendZones$Zones", "events", "I", false)
  | 7 => ("AppendZones$Zones", "openLimit", "I", false)
  | 8 => ("AppendZones$Zones", "useLimit", "I", false)
  | 9 => ("AppendZones$Zones", "turn", "I", false)
  | _ => ("AppendZones$Zones", "madeWay", "I", false)
def tyX4 : Nat → FieldType := fun k => match k with
  | 0 => .array .int
  | 1 => .array .int
  | 2 => .array .int
  | 3 => .array .int
  | 4 => .array .int
  | 5 => .array .int
  | 6 => .int
  | 7 => .int
  | 8 => .int
  | 9 => .int
  | _ => .int
abbrev wsX40 : List Cond := u_ws RX4 TX4 11
theorem nmX4 : ∀ a, a < 11 → ∀ b, b < 11 → a ≠ b → (TX4 a).2.1 ≠ (TX4 b).2.1 := by decide +kernel
theorem tyX4_ok : ∀ k, k < 11 → parseFieldDescriptor (TX4 k).2.2.1 = some (tyX4 k) := by decide +kernel
abbrev cX4_init : ByteArray := prog_6_method_1_code
def yX4_init : MethodName := ⟨RX4, "<init>", "()V"⟩
abbrev cX4_copyFrom : ByteArray := prog_6_method_2_code
def yX4_copyFrom : MethodName := ⟨RX4, "copyFrom", "(LAppendZones$Zones;)V"⟩
abbrev cX4_inPhase : ByteArray := prog_6_method_3_code
def yX4_inPhase : MethodName := ⟨RX4, "inPhase", "(I)I"⟩
abbrev cX4_inUse : ByteArray := prog_6_method_4_code
def yX4_inUse : MethodName := ⟨RX4, "inUse", "()I"⟩
abbrev cX4_takePlace : ByteArray := prog_6_method_5_code
def yX4_takePlace : MethodName := ⟨RX4, "takePlace", "(I)I"⟩
abbrev cX4_clear : ByteArray := prog_6_method_6_code
def yX4_clear : MethodName := ⟨RX4, "clear", "(I)V"⟩
def RX5 : String := "AppendZones"
def TX5 : u_T := fun k => match k with
  | 0 => ("AppendZones", "now", "LAppendZones$State;", true)
  | 1 => ("AppendZones", "snapshot", "LAppendZones$State;", true)
  | 2 => ("AppendZones", "hasSnapshot", "Z", false)
  | 3 => ("AppendZones", "history", "LAppendZones$History;", true)
  | _ => ("AppendZones", "text", "LAppendZones$OrderText;", true)
def tyX5 : Nat → FieldType := fun k => match k with
  | 0 => .object "AppendZones$State"
  | 1 => .object "AppendZones$State"
  | 2 => .boolean
  | 3 => .object "AppendZones$History"
  | _ => .object "AppendZones$OrderText"
abbrev wsX50 : List Cond := u_ws RX5 TX5 5
theorem nmX5 : ∀ a, a < 5 → ∀ b, b < 5 → a ≠ b → (TX5 a).2.1 ≠ (TX5 b).2.1 := by decide +kernel
theorem tyX5_ok : ∀ k, k < 5 → parseFieldDescriptor (TX5 k).2.2.1 = some (tyX5 k) := by decide +kernel
abbrev cX5_init : ByteArray := prog_1_method_1_code
def yX5_init : MethodName := ⟨RX5, "<init>", "()V"⟩
abbrev cX5_set : ByteArray := prog_1_method_2_code
def yX5_set : MethodName := ⟨RX5, "set", "(II)I"⟩
abbrev cX5_setZone : ByteArray := prog_1_method_3_code
def yX5_setZone : MethodName := ⟨RX5, "setZone", "(IZI)I"⟩
abbrev cX5_setWindow : ByteArray := prog_1_method_4_code
def yX5_setWindow : MethodName := ⟨RX5, "setWindow", "(II)I"⟩
abbrev cX5_append : ByteArray := prog_1_method_5_code
def yX5_append : MethodName := ⟨RX5, "append", "(III)I"⟩
abbrev cX5_reset : ByteArray := prog_1_method_6_code
def yX5_reset : MethodName := ⟨RX5, "reset", "(I)I"⟩
abbrev cX5_finish : ByteArray := prog_1_method_7_code
def yX5_finish : MethodName := ⟨RX5, "finish", "(I)I"⟩
abbrev cX5_close : ByteArray := prog_1_method_8_code
def yX5_close : MethodName := ⟨RX5, "close", "(I)I"⟩
abbrev cX5_pass : ByteArray := prog_1_method_9_code
def yX5_pass : MethodName := ⟨RX5, "pass", "(I)I"⟩
abbrev cX5_undo : ByteArray := prog_1_method_13_code
def yX5_undo : MethodName := ⟨RX5, "undo", "()I"⟩
abbrev cX5_read : ByteArray := prog_1_method_16_code
def yX5_read : MethodName := ⟨RX5, "read", "(II)I"⟩
abbrev cX5_zone : ByteArray := prog_1_method_17_code
def yX5_zone : MethodName := ⟨RX5, "zone", "(II)I"⟩
abbrev cX5_appended : ByteArray := prog_1_method_18_code
def yX5_appended : MethodName := ⟨RX5, "appended", "(II)I"⟩
abbrev cX5_writer : ByteArray := prog_1_method_19_code
def yX5_writer : MethodName := ⟨RX5, "writer", "(II)I"⟩
abbrev cX5_told : ByteArray := prog_1_method_20_code
def yX5_told : MethodName := ⟨RX5, "told", "(I)I"⟩
abbrev cX5_toldIn : ByteArray := prog_1_method_21_code
def yX5_toldIn : MethodName := ⟨RX5, "toldIn", "(I)I"⟩
abbrev cX5_would : ByteArray := prog_1_method_22_code
def yX5_would : MethodName := ⟨RX5, "would", "(II)I"⟩
abbrev cX5_count : ByteArray := prog_1_method_23_code
def yX5_count : MethodName := ⟨RX5, "count", "(I)I"⟩
abbrev cX5_isZone : ByteArray := prog_1_method_25_code
def yX5_isZone : MethodName := ⟨RX5, "isZone", "(I)Z"⟩
abbrev cX5_isWriter : ByteArray := prog_1_method_26_code
def yX5_isWriter : MethodName := ⟨RX5, "isWriter", "(I)Z"⟩
abbrev cX5_isFrom : ByteArray := prog_1_method_27_code
def yX5_isFrom : MethodName := ⟨RX5, "isFrom", "(III)Z"⟩
abbrev cX5_copy : ByteArray := prog_1_method_28_code
def yX5_copy : MethodName := ⟨RX5, "copy", "([I[II)V"⟩
def RX6 : String := "AppendZonesModel"
def TX6 : u_T := fun k => match k with
  | _ => ("", "", "", false)
def tyX6 : Nat → FieldType := fun k => match k with
  | _ => .int
abbrev wsX60 : List Cond := u_ws RX6 TX6 0
theorem nmX6 : ∀ a, a < 0 → ∀ b, b < 0 → a ≠ b → (TX6 a).2.1 ≠ (TX6 b).2.1 := by decide +kernel
theorem tyX6_ok : ∀ k, k < 0 → parseFieldDescriptor (TX6 k).2.2.1 = some (tyX6 k) := by decide +kernel
def RJ10 : String := "java/lang/System"
def TJ10 : u_T := fun k => match k with
  | _ => ("", "", "", false)
def tyJ10 : Nat → FieldType := fun k => match k with
  | _ => .int
abbrev wsJ100 : List Cond := u_ws RJ10 TJ10 0
theorem nmJ10 : ∀ a, a < 0 → ∀ b, b < 0 → a ≠ b → (TJ10 a).2.1 ≠ (TJ10 b).2.1 := by decide +kernel
theorem tyJ10_ok : ∀ k, k < 0 → parseFieldDescriptor (TJ10 k).2.2.1 = some (tyJ10 k) := by decide +kernel
def RL : String := "AppendZonesLaw"
abbrev cL_cell : ByteArray := method_2_code
def yL_cell : MethodName := ⟨RL, "cell", "([II)I"⟩
abbrev cL_low : ByteArray := method_3_code
def yL_low : MethodName := ⟨RL, "low", "(II)I"⟩
abbrev cL_does : ByteArray := method_4_code
def yL_does : MethodName := ⟨RL, "does", "(LAppendZones;I)I"⟩
abbrev cL_areZonesSo : ByteArray := method_5_code
def yL_areZonesSo : MethodName := ⟨RL, "areZonesSo", "(LAppendZones;)Z"⟩
abbrev cL_areAppendsSo : ByteArray := method_6_code
def yL_areAppendsSo : MethodName := ⟨RL, "areAppendsSo", "(LAppendZones;)Z"⟩
abbrev cL_isToldSo : ByteArray := method_7_code
def yL_isToldSo : MethodName := ⟨RL, "isToldSo", "(LAppendZones;II)Z"⟩
abbrev cL_isWouldSo : ByteArray := method_8_code
def yL_isWouldSo : MethodName := ⟨RL, "isWouldSo", "(LAppendZones;II)Z"⟩
abbrev cL_law : ByteArray := code
def yL_law : MethodName := ⟨RL, "law", "([I)Z"⟩
abbrev vwCl : List vw_C := [(RX0, TX0, 13), (RX1, TX1, 3), (RX2, TX2, 2), (RX3, TX3, 8), (RX4, TX4, 11), (RX5, TX5, 5)]
