def RX0 : String := "TernaryMatcher$History"
def TX0 : u_T := fun k => match k with
  | 0 => ("TernaryMatcher$History", "states", "[LTernaryMatcher$Memory;", true)
  | 1 => ("TernaryMatcher$History", "oldest", "I", false)
  | _ => ("TernaryMatcher$History", "count", "I", false)
def tyX0 : Nat → FieldType := fun k => match k with
  | 0 => .array (.object "TernaryMatcher$Memory")
  | 1 => .int
  | _ => .int
abbrev wsX00 : List Cond := u_ws RX0 TX0 3
theorem nmX0 : ∀ a, a < 3 → ∀ b, b < 3 → a ≠ b → (TX0 a).2.1 ≠ (TX0 b).2.1 := by decide +kernel
theorem tyX0_ok : ∀ k, k < 3 → parseFieldDescriptor (TX0 k).2.2.1 = some (tyX0 k) := by decide +kernel
abbrev cX0_init : ByteArray := prog_2_method_1_code
def yX0_init : MethodName := ⟨RX0, "<init>", "()V"⟩
abbrev cX0_record : ByteArray := prog_2_method_2_code
def yX0_record : MethodName := ⟨RX0, "record", "(LTernaryMatcher$Memory;)V"⟩
abbrev cX0_takeLatestInto : ByteArray := prog_2_method_3_code
def yX0_takeLatestInto : MethodName := ⟨RX0, "takeLatestInto", "(LTernaryMatcher$Memory;)V"⟩
def RX1 : String := "TernaryMatcher$Memory"
def TX1 : u_T := fun k => match k with
  | 0 => ("TernaryMatcher$Memory", "ruleAt", "[I", true)
  | 1 => ("TernaryMatcher$Memory", "partAt", "[I", true)
  | 2 => ("TernaryMatcher$Memory", "maskAt", "[I", true)
  | 3 => ("TernaryMatcher$Memory", "valueAt", "[I", true)
  | 4 => ("TernaryMatcher$Memory", "rankAt", "[I", true)
  | 5 => ("TernaryMatcher$Memory", "actionAt", "[I", true)
  | 6 => ("TernaryMatcher$Memory", "hitsAt", "[I", true)
  | 7 => ("TernaryMatcher$Memory", "placing", "I", false)
  | 8 => ("TernaryMatcher$Memory", "rulesAdded", "I", false)
  | 9 => ("TernaryMatcher$Memory", "entriesMoved", "I", false)
  | 10 => ("TernaryMatcher$Memory", "searches", "I", false)
  | _ => ("TernaryMatcher$Memory", "powers", "I", false)
def tyX1 : Nat → FieldType := fun k => match k with
  | 0 => .array .int
  | 1 => .array .int
  | 2 => .array .int
  | 3 => .array .int
  | 4 => .array .int
  | 5 => .array .int
  | 6 => .array .int
  | 7 => .int
  | 8 => .int
  | 9 => .int
  | 10 => .int
  | _ => .int
abbrev wsX10 : List Cond := u_ws RX1 TX1 12
theorem nmX1 : ∀ a, a < 12 → ∀ b, b < 12 → a ≠ b → (TX1 a).2.1 ≠ (TX1 b).2.1 := by decide +kernel
theorem tyX1_ok : ∀ k, k < 12 → parseFieldDescriptor (TX1 k).2.2.1 = some (tyX1 k) := by decide +kernel
abbrev cX1_init : ByteArray := prog_3_method_1_code
def yX1_init : MethodName := ⟨RX1, "<init>", "()V"⟩
abbrev cX1_copyFrom : ByteArray := prog_3_method_2_code
def yX1_copyFrom : MethodName := ⟨RX1, "copyFrom", "(LTernaryMatcher$Memory;)V"⟩
abbrev cX1_holdsEntry : ByteArray := prog_3_method_3_code
def yX1_holdsEntry : MethodName := ⟨RX1, "holdsEntry", "(I)Z"⟩
abbrev cX1_told : ByteArray := prog_3_method_4_code
def yX1_told : MethodName := ⟨RX1, "told", "([II)I"⟩
abbrev cX1_entries : ByteArray := prog_3_method_5_code
def yX1_entries : MethodName := ⟨RX1, "entries", "()I"⟩
abbrev cX1_freeSlots : ByteArray := prog_3_method_6_code
def yX1_freeSlots : MethodName := ⟨RX1, "freeSlots", "()I"⟩
abbrev cX1_rules : ByteArray := prog_3_method_7_code
def yX1_rules : MethodName := ⟨RX1, "rules", "()I"⟩
abbrev cX1_entriesOf : ByteArray := prog_3_method_8_code
def yX1_entriesOf : MethodName := ⟨RX1, "entriesOf", "(I)I"⟩
abbrev cX1_slotHolding : ByteArray := prog_3_method_9_code
def yX1_slotHolding : MethodName := ⟨RX1, "slotHolding", "(II)I"⟩
abbrev cX1_dropEntriesOf : ByteArray := prog_3_method_10_code
def yX1_dropEntriesOf : MethodName := ⟨RX1, "dropEntriesOf", "(I)V"⟩
abbrev cX1_addSingle : ByteArray := prog_3_method_11_code
def yX1_addSingle : MethodName := ⟨RX1, "addSingle", "(IIII)I"⟩
abbrev cX1_addBlocks : ByteArray := prog_3_method_12_code
def yX1_addBlocks : MethodName := ⟨RX1, "addBlocks", "(IIII)I"⟩
abbrev cX1_fill : ByteArray := prog_3_method_13_code
def yX1_fill : MethodName := ⟨RX1, "fill", "(IIIIIII)V"⟩
abbrev cX1_openSlot : ByteArray := prog_3_method_14_code
def yX1_openSlot : MethodName := ⟨RX1, "openSlot", "(I)I"⟩
abbrev cX1_movesFor : ByteArray := prog_3_method_15_code
def yX1_movesFor : MethodName := ⟨RX1, "movesFor", "(I)I"⟩
abbrev cX1_lastSlotUpTo : ByteArray := prog_3_method_16_code
def yX1_lastSlotUpTo : MethodName := ⟨RX1, "lastSlotUpTo", "(I)I"⟩
abbrev cX1_firstSlotBeyond : ByteArray := prog_3_method_17_code
def yX1_firstSlotBeyond : MethodName := ⟨RX1, "firstSlotBeyond", "(I)I"⟩
abbrev cX1_placeBetween : ByteArray := prog_3_method_18_code
def yX1_placeBetween : MethodName := ⟨RX1, "placeBetween", "(II)I"⟩
abbrev cX1_movesUpFrom : ByteArray := prog_3_method_19_code
def yX1_movesUpFrom : MethodName := ⟨RX1, "movesUpFrom", "(I)I"⟩
abbrev cX1_movesDownFrom : ByteArray := prog_3_method_20_code
def yX1_movesDownFrom : MethodName := ⟨RX1, "movesDownFrom", "(I)I"⟩
abbrev cX1_moveUp : ByteArray := prog_3_method_21_code
def yX1_moveUp : MethodName := ⟨RX1, "moveUp", "(II)V"⟩
abbrev cX1_moveDown : ByteArray := prog_3_method_22_code
def yX1_moveDown : MethodName := ⟨RX1, "moveDown", "(II)V"⟩
abbrev cX1_moveEntry : ByteArray := prog_3_method_23_code
def yX1_moveEntry : MethodName := ⟨RX1, "moveEntry", "(II)V"⟩
abbrev cX1_firstSlotOfShare : ByteArray := prog_3_method_24_code
def yX1_firstSlotOfShare : MethodName := ⟨RX1, "firstSlotOfShare", "(II)I"⟩
abbrev cX1_entriesOutOfShare : ByteArray := prog_3_method_25_code
def yX1_entriesOutOfShare : MethodName := ⟨RX1, "entriesOutOfShare", "(I)I"⟩
abbrev cX1_moveIntoShares : ByteArray := prog_3_method_26_code
def yX1_moveIntoShares : MethodName := ⟨RX1, "moveIntoShares", "(I)V"⟩
abbrev cX1_moveToFront : ByteArray := prog_3_method_27_code
def yX1_moveToFront : MethodName := ⟨RX1, "moveToFront", "()I"⟩
abbrev cX1_slotFoundBy : ByteArray := prog_3_method_28_code
def yX1_slotFoundBy : MethodName := ⟨RX1, "slotFoundBy", "(I)I"⟩
abbrev cX1_keysFinding : ByteArray := prog_3_method_29_code
def yX1_keysFinding : MethodName := ⟨RX1, "keysFinding", "(I)I"⟩
abbrev cX1_entriesNeverFound : ByteArray := prog_3_method_30_code
def yX1_entriesNeverFound : MethodName := ⟨RX1, "entriesNeverFound", "()I"⟩
abbrev cX1_countSearch : ByteArray := prog_3_method_31_code
def yX1_countSearch : MethodName := ⟨RX1, "countSearch", "(II)V"⟩
abbrev cX1_slotHiding : ByteArray := prog_3_method_32_code
def yX1_slotHiding : MethodName := ⟨RX1, "slotHiding", "(I)I"⟩
abbrev cX1_entriesInBank : ByteArray := prog_3_method_33_code
def yX1_entriesInBank : MethodName := ⟨RX1, "entriesInBank", "(I)I"⟩
abbrev cX1_powerFor : ByteArray := prog_3_method_34_code
def yX1_powerFor : MethodName := ⟨RX1, "powerFor", "(I)I"⟩
abbrev cX1_commonMask : ByteArray := prog_3_method_35_code
def yX1_commonMask : MethodName := ⟨RX1, "commonMask", "(I)I"⟩
abbrev cX1_commonValue : ByteArray := prog_3_method_36_code
def yX1_commonValue : MethodName := ⟨RX1, "commonValue", "(I)I"⟩
abbrev cX1_firstEntryOfBank : ByteArray := prog_3_method_37_code
def yX1_firstEntryOfBank : MethodName := ⟨RX1, "firstEntryOfBank", "(I)I"⟩
def RX2 : String := "TernaryMatcher$RuleText"
def TX2 : u_T := fun k => match k with
  | 0 => ("TernaryMatcher$RuleText", "signs", "[I", true)
  | 1 => ("TernaryMatcher$RuleText", "length", "I", false)
  | 2 => ("TernaryMatcher$RuleText", "at", "I", false)
  | 3 => ("TernaryMatcher$RuleText", "rulesRead", "I", false)
  | 4 => ("TernaryMatcher$RuleText", "masks", "[I", true)
  | 5 => ("TernaryMatcher$RuleText", "values", "[I", true)
  | 6 => ("TernaryMatcher$RuleText", "ranks", "[I", true)
  | _ => ("TernaryMatcher$RuleText", "actions", "[I", true)
def tyX2 : Nat → FieldType := fun k => match k with
  | 0 => .array .int
  | 1 => .int
  | 2 => .int
  | 3 => .int
  | 4 => .array .int
  | 5 => .array .int
  | 6 => .array .int
  | _ => .array .int
abbrev wsX20 : List Cond := u_ws RX2 TX2 8
theorem nmX2 : ∀ a, a < 8 → ∀ b, b < 8 → a ≠ b → (TX2 a).2.1 ≠ (TX2 b).2.1 := by decide +kernel
theorem tyX2_ok : ∀ k, k < 8 → parseFieldDescriptor (TX2 k).2.2.1 = some (tyX2 k) := by decide +kernel
abbrev cX2_init : ByteArray := prog_4_method_1_code
def yX2_init : MethodName := ⟨RX2, "<init>", "()V"⟩
abbrev cX2_readRules : ByteArray := prog_4_method_3_code
def yX2_readRules : MethodName := ⟨RX2, "readRules", "()I"⟩
abbrev cX2_sign : ByteArray := prog_4_method_4_code
def yX2_sign : MethodName := ⟨RX2, "sign", "()I"⟩
abbrev cX2_digit : ByteArray := prog_4_method_5_code
def yX2_digit : MethodName := ⟨RX2, "digit", "()I"⟩
abbrev cX2_skip : ByteArray := prog_4_method_6_code
def yX2_skip : MethodName := ⟨RX2, "skip", "(C)Z"⟩
abbrev cX2_readEntry : ByteArray := prog_4_method_7_code
def yX2_readEntry : MethodName := ⟨RX2, "readEntry", "(I)Z"⟩
abbrev cX2_readRank : ByteArray := prog_4_method_8_code
def yX2_readRank : MethodName := ⟨RX2, "readRank", "(I)Z"⟩
abbrev cX2_readAction : ByteArray := prog_4_method_9_code
def yX2_readAction : MethodName := ⟨RX2, "readAction", "(I)Z"⟩
def RX3 : String := "TernaryMatcher"
def TX3 : u_T := fun k => match k with
  | 0 => ("TernaryMatcher", "memory", "LTernaryMatcher$Memory;", true)
  | 1 => ("TernaryMatcher", "snapshot", "LTernaryMatcher$Memory;", true)
  | 2 => ("TernaryMatcher", "history", "LTernaryMatcher$History;", true)
  | 3 => ("TernaryMatcher", "text", "LTernaryMatcher$RuleText;", true)
  | _ => ("TernaryMatcher", "snapshotTaken", "Z", false)
def tyX3 : Nat → FieldType := fun k => match k with
  | 0 => .object "TernaryMatcher$Memory"
  | 1 => .object "TernaryMatcher$Memory"
  | 2 => .object "TernaryMatcher$History"
  | 3 => .object "TernaryMatcher$RuleText"
  | _ => .boolean
abbrev wsX30 : List Cond := u_ws RX3 TX3 5
theorem nmX3 : ∀ a, a < 5 → ∀ b, b < 5 → a ≠ b → (TX3 a).2.1 ≠ (TX3 b).2.1 := by decide +kernel
theorem tyX3_ok : ∀ k, k < 5 → parseFieldDescriptor (TX3 k).2.2.1 = some (tyX3 k) := by decide +kernel
abbrev cX3_init : ByteArray := prog_1_method_1_code
def yX3_init : MethodName := ⟨RX3, "<init>", "()V"⟩
abbrev cX3_addRule : ByteArray := prog_1_method_2_code
def yX3_addRule : MethodName := ⟨RX3, "addRule", "(IIII)I"⟩
abbrev cX3_addRange : ByteArray := prog_1_method_3_code
def yX3_addRange : MethodName := ⟨RX3, "addRange", "(IIII)I"⟩
abbrev cX3_remove : ByteArray := prog_1_method_4_code
def yX3_remove : MethodName := ⟨RX3, "remove", "(I)I"⟩
abbrev cX3_setPlacing : ByteArray := prog_1_method_5_code
def yX3_setPlacing : MethodName := ⟨RX3, "setPlacing", "(I)I"⟩
abbrev cX3_compact : ByteArray := prog_1_method_6_code
def yX3_compact : MethodName := ⟨RX3, "compact", "()I"⟩
abbrev cX3_spread : ByteArray := prog_1_method_7_code
def yX3_spread : MethodName := ⟨RX3, "spread", "()I"⟩
abbrev cX3_search : ByteArray := prog_1_method_8_code
def yX3_search : MethodName := ⟨RX3, "search", "(I)I"⟩
abbrev cX3_addText : ByteArray := prog_1_method_11_code
def yX3_addText : MethodName := ⟨RX3, "addText", "()I"⟩
abbrev cX3_undo : ByteArray := prog_1_method_12_code
def yX3_undo : MethodName := ⟨RX3, "undo", "()I"⟩
abbrev cX3_keep : ByteArray := prog_1_method_13_code
def yX3_keep : MethodName := ⟨RX3, "keep", "()I"⟩
abbrev cX3_restore : ByteArray := prog_1_method_14_code
def yX3_restore : MethodName := ⟨RX3, "restore", "()I"⟩
abbrev cX3_ruleIn : ByteArray := prog_1_method_15_code
def yX3_ruleIn : MethodName := ⟨RX3, "ruleIn", "(I)I"⟩
abbrev cX3_maskIn : ByteArray := prog_1_method_16_code
def yX3_maskIn : MethodName := ⟨RX3, "maskIn", "(I)I"⟩
abbrev cX3_valueIn : ByteArray := prog_1_method_17_code
def yX3_valueIn : MethodName := ⟨RX3, "valueIn", "(I)I"⟩
abbrev cX3_sortIn : ByteArray := prog_1_method_18_code
def yX3_sortIn : MethodName := ⟨RX3, "sortIn", "(I)I"⟩
abbrev cX3_slotOf : ByteArray := prog_1_method_19_code
def yX3_slotOf : MethodName := ⟨RX3, "slotOf", "(II)I"⟩
abbrev cX3_parts : ByteArray := prog_1_method_20_code
def yX3_parts : MethodName := ⟨RX3, "parts", "(I)I"⟩
abbrev cX3_rank : ByteArray := prog_1_method_21_code
def yX3_rank : MethodName := ⟨RX3, "rank", "(I)I"⟩
abbrev cX3_action : ByteArray := prog_1_method_22_code
def yX3_action : MethodName := ⟨RX3, "action", "(I)I"⟩
abbrev cX3_hits : ByteArray := prog_1_method_23_code
def yX3_hits : MethodName := ⟨RX3, "hits", "(I)I"⟩
abbrev cX3_find : ByteArray := prog_1_method_24_code
def yX3_find : MethodName := ⟨RX3, "find", "(I)I"⟩
abbrev cX3_power : ByteArray := prog_1_method_25_code
def yX3_power : MethodName := ⟨RX3, "power", "(I)I"⟩
abbrev cX3_filterMask : ByteArray := prog_1_method_26_code
def yX3_filterMask : MethodName := ⟨RX3, "filterMask", "(I)I"⟩
abbrev cX3_filterValue : ByteArray := prog_1_method_27_code
def yX3_filterValue : MethodName := ⟨RX3, "filterValue", "(I)I"⟩
abbrev cX3_hiddenBy : ByteArray := prog_1_method_28_code
def yX3_hiddenBy : MethodName := ⟨RX3, "hiddenBy", "(I)I"⟩
abbrev cX3_keysFor : ByteArray := prog_1_method_29_code
def yX3_keysFor : MethodName := ⟨RX3, "keysFor", "(I)I"⟩
abbrev cX3_wouldMove : ByteArray := prog_1_method_30_code
def yX3_wouldMove : MethodName := ⟨RX3, "wouldMove", "(I)I"⟩
abbrev cX3_entriesFor : ByteArray := prog_1_method_31_code
def yX3_entriesFor : MethodName := ⟨RX3, "entriesFor", "(II)I"⟩
abbrev cX3_total : ByteArray := prog_1_method_32_code
def yX3_total : MethodName := ⟨RX3, "total", "(I)I"⟩
abbrev cX3_rearrange : ByteArray := prog_1_method_33_code
def yX3_rearrange : MethodName := ⟨RX3, "rearrange", "(I)I"⟩
abbrev cX3_isSlot : ByteArray := prog_1_method_34_code
def yX3_isSlot : MethodName := ⟨RX3, "isSlot", "(I)Z"⟩
abbrev cX3_isBank : ByteArray := prog_1_method_35_code
def yX3_isBank : MethodName := ⟨RX3, "isBank", "(I)Z"⟩
abbrev cX3_isKey : ByteArray := prog_1_method_36_code
def yX3_isKey : MethodName := ⟨RX3, "isKey", "(I)Z"⟩
abbrev cX3_isRange : ByteArray := prog_1_method_37_code
def yX3_isRange : MethodName := ⟨RX3, "isRange", "(II)Z"⟩
abbrev cX3_isRank : ByteArray := prog_1_method_38_code
def yX3_isRank : MethodName := ⟨RX3, "isRank", "(I)Z"⟩
abbrev cX3_isAction : ByteArray := prog_1_method_39_code
def yX3_isAction : MethodName := ⟨RX3, "isAction", "(I)Z"⟩
abbrev cX3_sortOfMask : ByteArray := prog_1_method_40_code
def yX3_sortOfMask : MethodName := ⟨RX3, "sortOfMask", "(I)I"⟩
abbrev cX3_blocksOf : ByteArray := prog_1_method_41_code
def yX3_blocksOf : MethodName := ⟨RX3, "blocksOf", "(II)I"⟩
abbrev cX3_blockSize : ByteArray := prog_1_method_42_code
def yX3_blockSize : MethodName := ⟨RX3, "blockSize", "(II)I"⟩
abbrev cX3_copyState : ByteArray := prog_1_method_43_code
def yX3_copyState : MethodName := ⟨RX3, "copyState", "(LTernaryMatcher$Memory;LTernaryMatcher$Memory;)V"⟩
def RX4 : String := "TernaryMatcherModel"
def TX4 : u_T := fun k => match k with
  | _ => ("", "", "", false)
def tyX4 : Nat → FieldType := fun k => match k with
  | _ => .int
abbrev wsX40 : List Cond := u_ws RX4 TX4 0
theorem nmX4 : ∀ a, a < 0 → ∀ b, b < 0 → a ≠ b → (TX4 a).2.1 ≠ (TX4 b).2.1 := by decide +kernel
theorem tyX4_ok : ∀ k, k < 0 → parseFieldDescriptor (TX4 k).2.2.1 = some (tyX4 k) := by decide +kernel
def RJ6 : String := "java/lang/Integer"
def TJ6 : u_T := fun k => match k with
  | _ => ("", "", "", false)
def tyJ6 : Nat → FieldType := fun k => match k with
  | _ => .int
abbrev wsJ60 : List Cond := u_ws RJ6 TJ6 0
theorem nmJ6 : ∀ a, a < 0 → ∀ b, b < 0 → a ≠ b → (TJ6 a).2.1 ≠ (TJ6 b).2.1 := by decide +kernel
theorem tyJ6_ok : ∀ k, k < 0 → parseFieldDescriptor (TJ6 k).2.2.1 = some (tyJ6 k) := by decide +kernel
abbrev cJ6_bitCount_0f7a4 : ByteArray := prog_7_method_49_code
def yJ6_bitCount_0f7a4 : MethodName := ⟨RJ6, "bitCount", "(I)I"⟩
def RJ9 : String := "java/lang/Math"
def TJ9 : u_T := fun k => match k with
  | _ => ("", "", "", false)
def tyJ9 : Nat → FieldType := fun k => match k with
  | _ => .int
abbrev wsJ90 : List Cond := u_ws RJ9 TJ9 0
theorem nmJ9 : ∀ a, a < 0 → ∀ b, b < 0 → a ≠ b → (TJ9 a).2.1 ≠ (TJ9 b).2.1 := by decide +kernel
theorem tyJ9_ok : ∀ k, k < 0 → parseFieldDescriptor (TJ9 k).2.2.1 = some (tyJ9 k) := by decide +kernel
abbrev cJ9_floorMod_7cf53 : ByteArray := prog_8_method_50_code
def yJ9_floorMod_7cf53 : MethodName := ⟨RJ9, "floorMod", "(II)I"⟩
abbrev cJ9_min_7cf53 : ByteArray := prog_8_method_69_code
def yJ9_min_7cf53 : MethodName := ⟨RJ9, "min", "(II)I"⟩
def RL : String := "TernaryMatcherLaw"
abbrev cL_cell : ByteArray := method_2_code
def yL_cell : MethodName := ⟨RL, "cell", "([II)I"⟩
abbrev cL_seen : ByteArray := method_3_code
def yL_seen : MethodName := ⟨RL, "seen", "(LTernaryMatcher;)J"⟩
abbrev cL_isInOrder : ByteArray := method_4_code
def yL_isInOrder : MethodName := ⟨RL, "isInOrder", "(LTernaryMatcher;)Z"⟩
abbrev cL_isCounted : ByteArray := method_5_code
def yL_isCounted : MethodName := ⟨RL, "isCounted", "(LTernaryMatcher;I)Z"⟩
abbrev cL_refusesAny : ByteArray := method_6_code
def yL_refusesAny : MethodName := ⟨RL, "refusesAny", "(LTernaryMatcher;I)Z"⟩
abbrev cL_refuses : ByteArray := method_7_code
def yL_refuses : MethodName := ⟨RL, "refuses", "(LTernaryMatcher;I)Z"⟩
abbrev cL_adds : ByteArray := method_8_code
def yL_adds : MethodName := ⟨RL, "adds", "(LTernaryMatcher;I)I"⟩
abbrev cL_addsRange : ByteArray := method_9_code
def yL_addsRange : MethodName := ⟨RL, "addsRange", "(LTernaryMatcher;I)I"⟩
abbrev cL_rearranges : ByteArray := method_10_code
def yL_rearranges : MethodName := ⟨RL, "rearranges", "(LTernaryMatcher;Z)I"⟩
abbrev cL_searches : ByteArray := method_11_code
def yL_searches : MethodName := ⟨RL, "searches", "(LTernaryMatcher;I)I"⟩
abbrev cL_act : ByteArray := method_12_code
def yL_act : MethodName := ⟨RL, "act", "(LTernaryMatcher;I)I"⟩
abbrev cL_law : ByteArray := code
def yL_law : MethodName := ⟨RL, "law", "([I)Z"⟩
/-- the good words of the tables: what a callee may take from its caller -/
def gw : List Cond := lw_tbl.filter goodWord
theorem xg_r {w : Cond} {i : Nat} (h : tables_1[i]? = some w) (hg : goodWord w = true) : w ∈ gw := List.mem_filter.mpr ⟨List.mem_append_right _ (List.mem_of_getElem? h), hg⟩
theorem xg_l {w : Cond} {i : Nat} (h : (k2_sels lw_privs)[i]? = some w) (hg : goodWord w = true) : w ∈ gw := List.mem_filter.mpr ⟨List.mem_append_left _ (List.mem_of_getElem? h), hg⟩
def xisNest : Cond → Bool
  | .methodLinkNest .. => true
  | .fieldLinkNest .. => true
  | _ => false
def xnw : List Cond := tables_1.filter xisNest
theorem xn_r {w : Cond} {i : Nat} (h : tables_1[i]? = some w) (hg : xisNest w = true) : w ∈ xnw := List.mem_filter.mpr ⟨List.mem_of_getElem? h, hg⟩
/-- a method: its name, bytes, locals, what it returns, how deep its calls go -/
abbrev xMI : Type := MethodName × ByteArray × Nat × Option FieldType × Nat
def xCal (mi : xMI) (n : Nat) : Prop := Cond.code mi.1 mi.2.1 mi.2.2.1 mi.2.2.2.1 ∈ gw ∧ Cond.initialized mi.1.cls ∈ gw ∧ (mi.1.cls ≠ "java/lang/invoke/MethodHandle" ∧ mi.1.cls ≠ "java/lang/invoke/VarHandle" ∧ (parseMethodDescriptor mi.1.desc).map (fun d => d.parameters.length) = some n) ∧ plainFor mi.1 = true ∧ mi.2.2.1 ≤ 15
def xVir (mi : xMI) : Prop := Cond.instanceMethod mi.1 ∈ gw ∧ Cond.selects mi.1.cls mi.1 mi.1 ∈ gw
def xSta (mi : xMI) : Prop := Cond.static mi.1 ∈ gw
theorem xi_X0 : Cond.initialized RX0 ∈ gw := xg_r (i := 3) (by decide +kernel) rfl
theorem xi_X1 : Cond.initialized RX1 ∈ gw := xg_r (i := 2) (by decide +kernel) rfl
theorem xi_X2 : Cond.initialized RX2 ∈ gw := xg_r (i := 4) (by decide +kernel) rfl
theorem xi_X3 : Cond.initialized RX3 ∈ gw := xg_r (i := 1) (by decide +kernel) rfl
theorem xi_J6 : Cond.initialized RJ6 ∈ gw := xg_r (i := 6) (by decide +kernel) rfl
theorem xi_J9 : Cond.initialized RJ9 ∈ gw := xg_r (i := 5) (by decide +kernel) rfl
theorem xi_L : Cond.initialized RL ∈ gw := xg_r (i := 0) (by decide +kernel) rfl
def mX3_init : xMI := (yX3_init, cX3_init, 1, none, 2)
theorem fX3_init : xCal mX3_init 0 := ⟨xg_r (i := 11) (by decide +kernel) rfl, xi_X3, by decide +kernel, by decide +kernel, by decide⟩
theorem viX3_init : Cond.instanceMethod yX3_init ∈ gw := xg_r (i := 10) (by decide +kernel) rfl
def mX1_init : xMI := (yX1_init, cX1_init, 2, none, 0)
theorem fX1_init : xCal mX1_init 0 := ⟨xg_r (i := 19) (by decide +kernel) rfl, xi_X1, by decide +kernel, by decide +kernel, by decide⟩
theorem viX1_init : Cond.instanceMethod yX1_init ∈ gw := xg_r (i := 18) (by decide +kernel) rfl
def mX0_init : xMI := (yX0_init, cX0_init, 2, none, 1)
theorem fX0_init : xCal mX0_init 0 := ⟨xg_r (i := 74) (by decide +kernel) rfl, xi_X0, by decide +kernel, by decide +kernel, by decide⟩
theorem viX0_init : Cond.instanceMethod yX0_init ∈ gw := xg_r (i := 73) (by decide +kernel) rfl
def mX2_init : xMI := (yX2_init, cX2_init, 1, none, 0)
theorem fX2_init : xCal mX2_init 0 := ⟨xg_r (i := 94) (by decide +kernel) rfl, xi_X2, by decide +kernel, by decide +kernel, by decide⟩
theorem viX2_init : Cond.instanceMethod yX2_init ∈ gw := xg_r (i := 93) (by decide +kernel) rfl
def mX3_compact : xMI := (yX3_compact, cX3_compact, 1, (some .int), 5)
theorem fX3_compact : xCal mX3_compact 0 := ⟨xg_r (i := 146) (by decide +kernel) rfl, xi_X3, by decide +kernel, by decide +kernel, by decide⟩
theorem vX3_compact : xVir mX3_compact := ⟨xg_r (i := 144) (by decide +kernel) rfl, xg_r (i := 145) (by decide +kernel) rfl⟩
def mX3_rearrange : xMI := (yX3_rearrange, cX3_rearrange, 3, (some .int), 4)
theorem fX3_rearrange : xCal mX3_rearrange 1 := ⟨xg_r (i := 150) (by decide +kernel) rfl, xi_X3, by decide +kernel, by decide +kernel, by decide⟩
theorem vX3_rearrange : xVir mX3_rearrange := ⟨xg_r (i := 149) (by decide +kernel) rfl, xg_l (i := 0) (by decide +kernel) rfl⟩
def mX1_entriesOutOfShare : xMI := (yX1_entriesOutOfShare, cX1_entriesOutOfShare, 5, (some .int), 1)
theorem fX1_entriesOutOfShare : xCal mX1_entriesOutOfShare 1 := ⟨xg_r (i := 154) (by decide +kernel) rfl, xi_X1, by decide +kernel, by decide +kernel, by decide⟩
theorem vX1_entriesOutOfShare : xVir mX1_entriesOutOfShare := ⟨xg_r (i := 152) (by decide +kernel) rfl, xg_r (i := 153) (by decide +kernel) rfl⟩
def mX1_holdsEntry : xMI := (yX1_holdsEntry, cX1_holdsEntry, 2, (some .boolean), 0)
theorem fX1_holdsEntry : xCal mX1_holdsEntry 1 := ⟨xg_r (i := 158) (by decide +kernel) rfl, xi_X1, by decide +kernel, by decide +kernel, by decide⟩
theorem vX1_holdsEntry : xVir mX1_holdsEntry := ⟨xg_r (i := 156) (by decide +kernel) rfl, xg_r (i := 157) (by decide +kernel) rfl⟩
def mX1_firstSlotOfShare : xMI := (yX1_firstSlotOfShare, cX1_firstSlotOfShare, 2, (some .int), 0)
theorem fX1_firstSlotOfShare : xCal mX1_firstSlotOfShare 2 := ⟨xg_r (i := 161) (by decide +kernel) rfl, xi_X1, by decide +kernel, by decide +kernel, by decide⟩
theorem sX1_firstSlotOfShare : xSta mX1_firstSlotOfShare := xg_r (i := 160) (by decide +kernel) rfl
def mX0_record : xMI := (yX0_record, cX0_record, 2, none, 2)
theorem fX0_record : xCal mX0_record 1 := ⟨xg_r (i := 165) (by decide +kernel) rfl, xi_X0, by decide +kernel, by decide +kernel, by decide⟩
theorem vX0_record : xVir mX0_record := ⟨xg_r (i := 163) (by decide +kernel) rfl, xg_r (i := 164) (by decide +kernel) rfl⟩
def mJ9_floorMod_7cf53 : xMI := (yJ9_floorMod_7cf53, cJ9_floorMod_7cf53, 3, (some .int), 0)
theorem fJ9_floorMod_7cf53 : xCal mJ9_floorMod_7cf53 2 := ⟨xg_r (i := 168) (by decide +kernel) rfl, xi_J9, by decide +kernel, by decide +kernel, by decide⟩
theorem sJ9_floorMod_7cf53 : xSta mJ9_floorMod_7cf53 := xg_r (i := 167) (by decide +kernel) rfl
def mX3_copyState : xMI := (yX3_copyState, cX3_copyState, 2, none, 1)
theorem fX3_copyState : xCal mX3_copyState 2 := ⟨xg_r (i := 171) (by decide +kernel) rfl, xi_X3, by decide +kernel, by decide +kernel, by decide⟩
theorem sX3_copyState : xSta mX3_copyState := xg_r (i := 170) (by decide +kernel) rfl
def mX1_copyFrom : xMI := (yX1_copyFrom, cX1_copyFrom, 3, none, 0)
theorem fX1_copyFrom : xCal mX1_copyFrom 1 := ⟨xg_r (i := 175) (by decide +kernel) rfl, xi_X1, by decide +kernel, by decide +kernel, by decide⟩
theorem vX1_copyFrom : xVir mX1_copyFrom := ⟨xg_r (i := 173) (by decide +kernel) rfl, xg_r (i := 174) (by decide +kernel) rfl⟩
def mX1_moveIntoShares : xMI := (yX1_moveIntoShares, cX1_moveIntoShares, 4, none, 3)
theorem fX1_moveIntoShares : xCal mX1_moveIntoShares 1 := ⟨xg_r (i := 179) (by decide +kernel) rfl, xi_X1, by decide +kernel, by decide +kernel, by decide⟩
theorem vX1_moveIntoShares : xVir mX1_moveIntoShares := ⟨xg_r (i := 177) (by decide +kernel) rfl, xg_r (i := 178) (by decide +kernel) rfl⟩
def mX1_moveToFront : xMI := (yX1_moveToFront, cX1_moveToFront, 3, (some .int), 2)
theorem fX1_moveToFront : xCal mX1_moveToFront 0 := ⟨xg_r (i := 183) (by decide +kernel) rfl, xi_X1, by decide +kernel, by decide +kernel, by decide⟩
theorem vX1_moveToFront : xVir mX1_moveToFront := ⟨xg_r (i := 182) (by decide +kernel) rfl, xg_l (i := 1) (by decide +kernel) rfl⟩
def mX1_moveEntry : xMI := (yX1_moveEntry, cX1_moveEntry, 3, none, 1)
theorem fX1_moveEntry : xCal mX1_moveEntry 2 := ⟨xg_r (i := 187) (by decide +kernel) rfl, xi_X1, by decide +kernel, by decide +kernel, by decide⟩
theorem vX1_moveEntry : xVir mX1_moveEntry := ⟨xg_r (i := 186) (by decide +kernel) rfl, xg_l (i := 2) (by decide +kernel) rfl⟩
def mX3_isSlot : xMI := (yX3_isSlot, cX3_isSlot, 1, (some .boolean), 0)
theorem fX3_isSlot : xCal mX3_isSlot 1 := ⟨xg_r (i := 190) (by decide +kernel) rfl, xi_X3, by decide +kernel, by decide +kernel, by decide⟩
theorem sX3_isSlot : xSta mX3_isSlot := xg_r (i := 189) (by decide +kernel) rfl
def mX3_spread : xMI := (yX3_spread, cX3_spread, 1, (some .int), 5)
theorem fX3_spread : xCal mX3_spread 0 := ⟨xg_r (i := 194) (by decide +kernel) rfl, xi_X3, by decide +kernel, by decide +kernel, by decide⟩
theorem vX3_spread : xVir mX3_spread := ⟨xg_r (i := 192) (by decide +kernel) rfl, xg_r (i := 193) (by decide +kernel) rfl⟩
def mX1_entries : xMI := (yX1_entries, cX1_entries, 3, (some .int), 2)
theorem fX1_entries : xCal mX1_entries 0 := ⟨xg_r (i := 198) (by decide +kernel) rfl, xi_X1, by decide +kernel, by decide +kernel, by decide⟩
theorem vX1_entries : xVir mX1_entries := ⟨xg_r (i := 196) (by decide +kernel) rfl, xg_r (i := 197) (by decide +kernel) rfl⟩
def mX1_entriesInBank : xMI := (yX1_entriesInBank, cX1_entriesInBank, 4, (some .int), 1)
theorem fX1_entriesInBank : xCal mX1_entriesInBank 1 := ⟨xg_r (i := 202) (by decide +kernel) rfl, xi_X1, by decide +kernel, by decide +kernel, by decide⟩
theorem vX1_entriesInBank : xVir mX1_entriesInBank := ⟨xg_r (i := 200) (by decide +kernel) rfl, xg_r (i := 201) (by decide +kernel) rfl⟩
def mX3_search : xMI := (yX3_search, cX3_search, 3, (some .int), 6)
theorem fX3_search : xCal mX3_search 1 := ⟨xg_r (i := 206) (by decide +kernel) rfl, xi_X3, by decide +kernel, by decide +kernel, by decide⟩
theorem vX3_search : xVir mX3_search := ⟨xg_r (i := 204) (by decide +kernel) rfl, xg_r (i := 205) (by decide +kernel) rfl⟩
def mX3_isKey : xMI := (yX3_isKey, cX3_isKey, 1, (some .boolean), 0)
theorem fX3_isKey : xCal mX3_isKey 1 := ⟨xg_r (i := 209) (by decide +kernel) rfl, xi_X3, by decide +kernel, by decide +kernel, by decide⟩
theorem sX3_isKey : xSta mX3_isKey := xg_r (i := 208) (by decide +kernel) rfl
def mX1_slotFoundBy : xMI := (yX1_slotFoundBy, cX1_slotFoundBy, 3, (some .int), 1)
theorem fX1_slotFoundBy : xCal mX1_slotFoundBy 1 := ⟨xg_r (i := 213) (by decide +kernel) rfl, xi_X1, by decide +kernel, by decide +kernel, by decide⟩
theorem vX1_slotFoundBy : xVir mX1_slotFoundBy := ⟨xg_r (i := 211) (by decide +kernel) rfl, xg_r (i := 212) (by decide +kernel) rfl⟩
def mX1_countSearch : xMI := (yX1_countSearch, cX1_countSearch, 5, none, 5)
theorem fX1_countSearch : xCal mX1_countSearch 2 := ⟨xg_r (i := 217) (by decide +kernel) rfl, xi_X1, by decide +kernel, by decide +kernel, by decide⟩
theorem vX1_countSearch : xVir mX1_countSearch := ⟨xg_r (i := 215) (by decide +kernel) rfl, xg_r (i := 216) (by decide +kernel) rfl⟩
def mX1_powerFor : xMI := (yX1_powerFor, cX1_powerFor, 4, (some .int), 4)
theorem fX1_powerFor : xCal mX1_powerFor 1 := ⟨xg_r (i := 221) (by decide +kernel) rfl, xi_X1, by decide +kernel, by decide +kernel, by decide⟩
theorem vX1_powerFor : xVir mX1_powerFor := ⟨xg_r (i := 219) (by decide +kernel) rfl, xg_r (i := 220) (by decide +kernel) rfl⟩
def mX1_commonMask : xMI := (yX1_commonMask, cX1_commonMask, 6, (some .int), 2)
theorem fX1_commonMask : xCal mX1_commonMask 1 := ⟨xg_r (i := 225) (by decide +kernel) rfl, xi_X1, by decide +kernel, by decide +kernel, by decide⟩
theorem vX1_commonMask : xVir mX1_commonMask := ⟨xg_r (i := 223) (by decide +kernel) rfl, xg_r (i := 224) (by decide +kernel) rfl⟩
def mX1_firstEntryOfBank : xMI := (yX1_firstEntryOfBank, cX1_firstEntryOfBank, 3, (some .int), 1)
theorem fX1_firstEntryOfBank : xCal mX1_firstEntryOfBank 1 := ⟨xg_r (i := 229) (by decide +kernel) rfl, xi_X1, by decide +kernel, by decide +kernel, by decide⟩
theorem vX1_firstEntryOfBank : xVir mX1_firstEntryOfBank := ⟨xg_r (i := 228) (by decide +kernel) rfl, xg_l (i := 3) (by decide +kernel) rfl⟩
def mX1_commonValue : xMI := (yX1_commonValue, cX1_commonValue, 3, (some .int), 3)
theorem fX1_commonValue : xCal mX1_commonValue 1 := ⟨xg_r (i := 233) (by decide +kernel) rfl, xi_X1, by decide +kernel, by decide +kernel, by decide⟩
theorem vX1_commonValue : xVir mX1_commonValue := ⟨xg_r (i := 231) (by decide +kernel) rfl, xg_r (i := 232) (by decide +kernel) rfl⟩
def mX1_told : xMI := (yX1_told, cX1_told, 3, (some .int), 1)
theorem fX1_told : xCal mX1_told 2 := ⟨xg_r (i := 237) (by decide +kernel) rfl, xi_X1, by decide +kernel, by decide +kernel, by decide⟩
theorem vX1_told : xVir mX1_told := ⟨xg_r (i := 235) (by decide +kernel) rfl, xg_r (i := 236) (by decide +kernel) rfl⟩
def mX3_addText : xMI := (yX3_addText, cX3_addText, 4, (some .int), 5)
theorem fX3_addText : xCal mX3_addText 0 := ⟨xg_r (i := 241) (by decide +kernel) rfl, xi_X3, by decide +kernel, by decide +kernel, by decide⟩
theorem vX3_addText : xVir mX3_addText := ⟨xg_r (i := 239) (by decide +kernel) rfl, xg_r (i := 240) (by decide +kernel) rfl⟩
def mX2_readRules : xMI := (yX2_readRules, cX2_readRules, 2, (some .int), 3)
theorem fX2_readRules : xCal mX2_readRules 0 := ⟨xg_r (i := 245) (by decide +kernel) rfl, xi_X2, by decide +kernel, by decide +kernel, by decide⟩
theorem vX2_readRules : xVir mX2_readRules := ⟨xg_r (i := 243) (by decide +kernel) rfl, xg_r (i := 244) (by decide +kernel) rfl⟩
def mX2_readEntry : xMI := (yX2_readEntry, cX2_readEntry, 6, (some .boolean), 1)
theorem fX2_readEntry : xCal mX2_readEntry 1 := ⟨xg_r (i := 249) (by decide +kernel) rfl, xi_X2, by decide +kernel, by decide +kernel, by decide⟩
theorem vX2_readEntry : xVir mX2_readEntry := ⟨xg_r (i := 248) (by decide +kernel) rfl, xg_l (i := 4) (by decide +kernel) rfl⟩
def mX2_sign : xMI := (yX2_sign, cX2_sign, 1, (some .int), 0)
theorem fX2_sign : xCal mX2_sign 0 := ⟨xg_r (i := 253) (by decide +kernel) rfl, xi_X2, by decide +kernel, by decide +kernel, by decide⟩
theorem vX2_sign : xVir mX2_sign := ⟨xg_r (i := 252) (by decide +kernel) rfl, xg_l (i := 5) (by decide +kernel) rfl⟩
def mX2_skip : xMI := (yX2_skip, cX2_skip, 2, (some .boolean), 1)
theorem fX2_skip : xCal mX2_skip 1 := ⟨xg_r (i := 257) (by decide +kernel) rfl, xi_X2, by decide +kernel, by decide +kernel, by decide⟩
theorem vX2_skip : xVir mX2_skip := ⟨xg_r (i := 256) (by decide +kernel) rfl, xg_l (i := 6) (by decide +kernel) rfl⟩
def mX2_readRank : xMI := (yX2_readRank, cX2_readRank, 4, (some .boolean), 2)
theorem fX2_readRank : xCal mX2_readRank 1 := ⟨xg_r (i := 261) (by decide +kernel) rfl, xi_X2, by decide +kernel, by decide +kernel, by decide⟩
theorem vX2_readRank : xVir mX2_readRank := ⟨xg_r (i := 260) (by decide +kernel) rfl, xg_l (i := 7) (by decide +kernel) rfl⟩
def mX2_digit : xMI := (yX2_digit, cX2_digit, 2, (some .int), 1)
theorem fX2_digit : xCal mX2_digit 0 := ⟨xg_r (i := 265) (by decide +kernel) rfl, xi_X2, by decide +kernel, by decide +kernel, by decide⟩
theorem vX2_digit : xVir mX2_digit := ⟨xg_r (i := 264) (by decide +kernel) rfl, xg_l (i := 8) (by decide +kernel) rfl⟩
def mX2_readAction : xMI := (yX2_readAction, cX2_readAction, 3, (some .boolean), 2)
theorem fX2_readAction : xCal mX2_readAction 1 := ⟨xg_r (i := 269) (by decide +kernel) rfl, xi_X2, by decide +kernel, by decide +kernel, by decide⟩
theorem vX2_readAction : xVir mX2_readAction := ⟨xg_r (i := 268) (by decide +kernel) rfl, xg_l (i := 9) (by decide +kernel) rfl⟩
def mX1_freeSlots : xMI := (yX1_freeSlots, cX1_freeSlots, 1, (some .int), 3)
theorem fX1_freeSlots : xCal mX1_freeSlots 0 := ⟨xg_r (i := 273) (by decide +kernel) rfl, xi_X1, by decide +kernel, by decide +kernel, by decide⟩
theorem vX1_freeSlots : xVir mX1_freeSlots := ⟨xg_r (i := 271) (by decide +kernel) rfl, xg_r (i := 272) (by decide +kernel) rfl⟩
def mX1_addSingle : xMI := (yX1_addSingle, cX1_addSingle, 6, (some .int), 4)
theorem fX1_addSingle : xCal mX1_addSingle 4 := ⟨xg_r (i := 278) (by decide +kernel) rfl, xi_X1, by decide +kernel, by decide +kernel, by decide⟩
theorem vX1_addSingle : xVir mX1_addSingle := ⟨xg_r (i := 276) (by decide +kernel) rfl, xg_r (i := 277) (by decide +kernel) rfl⟩
def mX1_openSlot : xMI := (yX1_openSlot, cX1_openSlot, 6, (some .int), 3)
theorem fX1_openSlot : xCal mX1_openSlot 1 := ⟨xg_r (i := 282) (by decide +kernel) rfl, xi_X1, by decide +kernel, by decide +kernel, by decide⟩
theorem vX1_openSlot : xVir mX1_openSlot := ⟨xg_r (i := 281) (by decide +kernel) rfl, xg_l (i := 10) (by decide +kernel) rfl⟩
def mX1_lastSlotUpTo : xMI := (yX1_lastSlotUpTo, cX1_lastSlotUpTo, 3, (some .int), 1)
theorem fX1_lastSlotUpTo : xCal mX1_lastSlotUpTo 1 := ⟨xg_r (i := 286) (by decide +kernel) rfl, xi_X1, by decide +kernel, by decide +kernel, by decide⟩
theorem vX1_lastSlotUpTo : xVir mX1_lastSlotUpTo := ⟨xg_r (i := 285) (by decide +kernel) rfl, xg_l (i := 11) (by decide +kernel) rfl⟩
def mX1_firstSlotBeyond : xMI := (yX1_firstSlotBeyond, cX1_firstSlotBeyond, 3, (some .int), 1)
theorem fX1_firstSlotBeyond : xCal mX1_firstSlotBeyond 1 := ⟨xg_r (i := 290) (by decide +kernel) rfl, xi_X1, by decide +kernel, by decide +kernel, by decide⟩
theorem vX1_firstSlotBeyond : xVir mX1_firstSlotBeyond := ⟨xg_r (i := 289) (by decide +kernel) rfl, xg_l (i := 12) (by decide +kernel) rfl⟩
def mX1_placeBetween : xMI := (yX1_placeBetween, cX1_placeBetween, 3, (some .int), 0)
theorem fX1_placeBetween : xCal mX1_placeBetween 2 := ⟨xg_r (i := 294) (by decide +kernel) rfl, xi_X1, by decide +kernel, by decide +kernel, by decide⟩
theorem vX1_placeBetween : xVir mX1_placeBetween := ⟨xg_r (i := 293) (by decide +kernel) rfl, xg_l (i := 13) (by decide +kernel) rfl⟩
def mX1_movesUpFrom : xMI := (yX1_movesUpFrom, cX1_movesUpFrom, 3, (some .int), 1)
theorem fX1_movesUpFrom : xCal mX1_movesUpFrom 1 := ⟨xg_r (i := 298) (by decide +kernel) rfl, xi_X1, by decide +kernel, by decide +kernel, by decide⟩
theorem vX1_movesUpFrom : xVir mX1_movesUpFrom := ⟨xg_r (i := 297) (by decide +kernel) rfl, xg_l (i := 14) (by decide +kernel) rfl⟩
def mX1_movesDownFrom : xMI := (yX1_movesDownFrom, cX1_movesDownFrom, 3, (some .int), 1)
theorem fX1_movesDownFrom : xCal mX1_movesDownFrom 1 := ⟨xg_r (i := 302) (by decide +kernel) rfl, xi_X1, by decide +kernel, by decide +kernel, by decide⟩
theorem vX1_movesDownFrom : xVir mX1_movesDownFrom := ⟨xg_r (i := 301) (by decide +kernel) rfl, xg_l (i := 15) (by decide +kernel) rfl⟩
def mX1_moveUp : xMI := (yX1_moveUp, cX1_moveUp, 4, none, 2)
theorem fX1_moveUp : xCal mX1_moveUp 2 := ⟨xg_r (i := 306) (by decide +kernel) rfl, xi_X1, by decide +kernel, by decide +kernel, by decide⟩
theorem vX1_moveUp : xVir mX1_moveUp := ⟨xg_r (i := 305) (by decide +kernel) rfl, xg_l (i := 16) (by decide +kernel) rfl⟩
def mX1_moveDown : xMI := (yX1_moveDown, cX1_moveDown, 4, none, 2)
theorem fX1_moveDown : xCal mX1_moveDown 2 := ⟨xg_r (i := 310) (by decide +kernel) rfl, xi_X1, by decide +kernel, by decide +kernel, by decide⟩
theorem vX1_moveDown : xVir mX1_moveDown := ⟨xg_r (i := 309) (by decide +kernel) rfl, xg_l (i := 17) (by decide +kernel) rfl⟩
def mX1_fill : xMI := (yX1_fill, cX1_fill, 8, none, 1)
theorem fX1_fill : xCal mX1_fill 7 := ⟨xg_r (i := 314) (by decide +kernel) rfl, xi_X1, by decide +kernel, by decide +kernel, by decide⟩
theorem vX1_fill : xVir mX1_fill := ⟨xg_r (i := 313) (by decide +kernel) rfl, xg_l (i := 18) (by decide +kernel) rfl⟩
def mX3_undo : xMI := (yX3_undo, cX3_undo, 1, (some .int), 3)
theorem fX3_undo : xCal mX3_undo 0 := ⟨xg_r (i := 318) (by decide +kernel) rfl, xi_X3, by decide +kernel, by decide +kernel, by decide⟩
theorem vX3_undo : xVir mX3_undo := ⟨xg_r (i := 316) (by decide +kernel) rfl, xg_r (i := 317) (by decide +kernel) rfl⟩
def mX0_takeLatestInto : xMI := (yX0_takeLatestInto, cX0_takeLatestInto, 2, none, 2)
theorem fX0_takeLatestInto : xCal mX0_takeLatestInto 1 := ⟨xg_r (i := 322) (by decide +kernel) rfl, xi_X0, by decide +kernel, by decide +kernel, by decide⟩
theorem vX0_takeLatestInto : xVir mX0_takeLatestInto := ⟨xg_r (i := 320) (by decide +kernel) rfl, xg_r (i := 321) (by decide +kernel) rfl⟩
def mX3_keep : xMI := (yX3_keep, cX3_keep, 1, (some .int), 3)
theorem fX3_keep : xCal mX3_keep 0 := ⟨xg_r (i := 326) (by decide +kernel) rfl, xi_X3, by decide +kernel, by decide +kernel, by decide⟩
theorem vX3_keep : xVir mX3_keep := ⟨xg_r (i := 324) (by decide +kernel) rfl, xg_r (i := 325) (by decide +kernel) rfl⟩
def mX3_restore : xMI := (yX3_restore, cX3_restore, 1, (some .int), 3)
theorem fX3_restore : xCal mX3_restore 0 := ⟨xg_r (i := 331) (by decide +kernel) rfl, xi_X3, by decide +kernel, by decide +kernel, by decide⟩
theorem vX3_restore : xVir mX3_restore := ⟨xg_r (i := 329) (by decide +kernel) rfl, xg_r (i := 330) (by decide +kernel) rfl⟩
def mX3_total : xMI := (yX3_total, cX3_total, 2, (some .int), 4)
theorem fX3_total : xCal mX3_total 1 := ⟨xg_r (i := 335) (by decide +kernel) rfl, xi_X3, by decide +kernel, by decide +kernel, by decide⟩
theorem vX3_total : xVir mX3_total := ⟨xg_r (i := 333) (by decide +kernel) rfl, xg_r (i := 334) (by decide +kernel) rfl⟩
def mX1_rules : xMI := (yX1_rules, cX1_rules, 3, (some .int), 1)
theorem fX1_rules : xCal mX1_rules 0 := ⟨xg_r (i := 339) (by decide +kernel) rfl, xi_X1, by decide +kernel, by decide +kernel, by decide⟩
theorem vX1_rules : xVir mX1_rules := ⟨xg_r (i := 337) (by decide +kernel) rfl, xg_r (i := 338) (by decide +kernel) rfl⟩
def mX1_entriesNeverFound : xMI := (yX1_entriesNeverFound, cX1_entriesNeverFound, 4, (some .int), 3)
theorem fX1_entriesNeverFound : xCal mX1_entriesNeverFound 0 := ⟨xg_r (i := 343) (by decide +kernel) rfl, xi_X1, by decide +kernel, by decide +kernel, by decide⟩
theorem vX1_entriesNeverFound : xVir mX1_entriesNeverFound := ⟨xg_r (i := 341) (by decide +kernel) rfl, xg_r (i := 342) (by decide +kernel) rfl⟩
def mJ6_bitCount_0f7a4 : xMI := (yJ6_bitCount_0f7a4, cJ6_bitCount_0f7a4, 1, (some .int), 0)
theorem fJ6_bitCount_0f7a4 : xCal mJ6_bitCount_0f7a4 1 := ⟨xg_r (i := 347) (by decide +kernel) rfl, xi_J6, by decide +kernel, by decide +kernel, by decide⟩
theorem sJ6_bitCount_0f7a4 : xSta mJ6_bitCount_0f7a4 := xg_r (i := 346) (by decide +kernel) rfl
def mX1_keysFinding : xMI := (yX1_keysFinding, cX1_keysFinding, 4, (some .int), 2)
theorem fX1_keysFinding : xCal mX1_keysFinding 1 := ⟨xg_r (i := 354) (by decide +kernel) rfl, xi_X1, by decide +kernel, by decide +kernel, by decide⟩
theorem vX1_keysFinding : xVir mX1_keysFinding := ⟨xg_r (i := 352) (by decide +kernel) rfl, xg_r (i := 353) (by decide +kernel) rfl⟩
