def RX0 : String := "TernaryMatcher$History"
def TX0 : u_T := fun k => match k with
  | 0 => ("TernaryMatcher$History", "states", "[LTernaryMatcher$Memory;", true)
  | 1 => ("TernaryMatcher$History", "oldest", "I", false)
  | _ => ("TernaryMatcher$History", "count", "I", false)
def tyX0 : Nat → FieldType := fun k => match k with
  | 0 => .array (.object "TernaryMatcher$Memory")
  | 1 => .int
  | _ => .int
abbrev wsX00 : List Cond := u_ws RX0 TX0 3
theorem nmX0 : ∀ a, a < 3 → ∀ b, b < 3 → a ≠ b → (TX0 a).2.1 ≠ (TX0 b).2.1 := by decide +kernel
theorem tyX0_ok : ∀ k, k < 3 → parseFieldDescriptor (TX0 k).2.2.1 = some (tyX0 k) := by decide +kernel
abbrev cX0_init : ByteArray := prog_2_method_1_code
def yX0_init : MethodName := ⟨RX0, "<init>", "()V"⟩
abbrev cX0_record : ByteArray := prog_2_method_2_code
def yX0_record : MethodName := ⟨RX0, "record", "(LTernaryMatcher$Memory;)V"⟩
abbrev cX0_takeLatestInto : ByteArray := prog_2_method_3_code
def yX0_takeLatestInto : MethodName := ⟨RX0, "takeLatestInto", "(LTernaryMatcher$Memory;)V"⟩
def RX1 : String := "TernaryMatcher$Memory"
def TX1 : u_T := fun k => match k with
  | 0 => ("TernaryMatcher$Memory", "ruleAt", "[I", true)
  | 1 => ("TernaryMatcher$Memory", "partAt", "[I", true)
  | 2 => ("TernaryMatcher$Memory", "maskAt", "[I", true)
  | 3 => ("TernaryMatcher$Memory", "valueAt", "[I", true)
  | 4 => ("TernaryMatcher$Memory", "rankAt", "[I", true)
  | 5 => ("TernaryMatcher$Memory", "actionAt", "[I", true)
  | 6 => ("TernaryMatcher$Memory", "hitsAt", "[I", true)
  | 7 => ("TernaryMatcher$Memory", "placing", "I", false)
  | 8 => ("TernaryMatcher$Memory", "rulesAdded", "I", false)
  | 9 => ("TernaryMatcher$Memory", "entriesMoved", "I", false)
  | 10 => ("TernaryMatcher$Memory", "searches", "I", false)
  | _ => ("TernaryMatcher$Memory", "powers", "I", false)
def tyX1 : Nat → FieldType := fun k => match k with
  | 0 => .array .int
  | 1 => .array .int
  | 2 => .array .int
  | 3 => .array .int
  | 4 => .array .int
  | 5 => .array .int
  | 6 => .array .int
  | 7 => .int
  | 8 => .int
  | 9 => .int
  | 10 => .int
  | _ => .int
abbrev wsX10 : List Cond := u_ws RX1 TX1 12
theorem nmX1 : ∀ a, a < 12 → ∀ b, b < 12 → a ≠ b → (TX1 a).2.1 ≠ (TX1 b).2.1 := by decide +kernel
theorem tyX1_ok : ∀ k, k < 12 → parseFieldDescriptor (TX1 k).2.2.1 = some (tyX1 k) := by decide +kernel
abbrev cX1_init : ByteArray := prog_3_method_1_code
def yX1_init : MethodName := ⟨RX1, "<init>", "()V"⟩
abbrev cX1_copyFrom : ByteArray := prog_3_method_2_code
def yX1_copyFrom : MethodName := ⟨RX1, "copyFrom", "(LTernaryMatcher$Memory;)V"⟩
abbrev cX1_holdsEntry : ByteArray := prog_3_method_3_code
def yX1_holdsEntry : MethodName := ⟨RX1, "holdsEntry", "(I)Z"⟩
abbrev cX1_told : ByteArray := prog_3_method_4_code
def yX1_told : MethodName := ⟨RX1, "told", "([II)I"⟩
abbrev cX1_entries : ByteArray := prog_3_method_5_code
def yX1_entries : MethodName := ⟨RX1, "entries", "()I"⟩
abbrev cX1_freeSlots : ByteArray := prog_3_method_6_code
def yX1_freeSlots : MethodName := ⟨RX1, "freeSlots", "()I"⟩
abbrev cX1_rules : ByteArray := prog_3_method_7_code
def yX1_rules : MethodName := ⟨RX1, "rules", "()I"⟩
abbrev cX1_entriesOf : ByteArray := prog_3_method_8_code
def yX1_entriesOf : MethodName := ⟨RX1, "entriesOf", "(I)I"⟩
abbrev cX1_slotHolding : ByteArray := prog_3_method_9_code
def yX1_slotHolding : MethodName := ⟨RX1, "slotHolding", "(II)I"⟩
abbrev cX1_dropEntriesOf : ByteArray := prog_3_method_10_code
def yX1_dropEntriesOf : MethodName := ⟨RX1, "dropEntriesOf", "(I)V"⟩
abbrev cX1_addSingle : ByteArray := prog_3_method_11_code
def yX1_addSingle : MethodName := ⟨RX1, "addSingle", "(IIII)I"⟩
abbrev cX1_addBlocks : ByteArray := prog_3_method_12_code
def yX1_addBlocks : MethodName := ⟨RX1, "addBlocks", "(IIII)I"⟩
abbrev cX1_fill : ByteArray := prog_3_method_13_code
def yX1_fill : MethodName := ⟨RX1, "fill", "(IIIIIII)V"⟩
abbrev cX1_openSlot : ByteArray := prog_3_method_14_code
def yX1_openSlot : MethodName := ⟨RX1, "openSlot", "(I)I"⟩
abbrev cX1_movesFor : ByteArray := prog_3_method_15_code
def yX1_movesFor : MethodName := ⟨RX1, "movesFor", "(I)I"⟩
abbrev cX1_lastSlotUpTo : ByteArray := prog_3_method_16_code
def yX1_lastSlotUpTo : MethodName := ⟨RX1, "lastSlotUpTo", "(I)I"⟩
abbrev cX1_firstSlotBeyond : ByteArray := prog_3_method_17_code
def yX1_firstSlotBeyond : MethodName := ⟨RX1, "firstSlotBeyond", "(I)I"⟩
abbrev cX1_placeBetween : ByteArray := prog_3_method_18_code
def yX1_placeBetween : MethodName := ⟨RX1, "placeBetween", "(II)I"⟩
abbrev cX1_movesUpFrom : ByteArray := prog_3_method_19_code
def yX1_movesUpFrom : MethodName := ⟨RX1, "movesUpFrom", "(I)I"⟩
abbrev cX1_movesDownFrom : ByteArray := prog_3_method_20_code
def yX1_movesDownFrom : MethodName := ⟨RX1, "movesDownFrom", "(I)I"⟩
abbrev cX1_moveUp : ByteArray := prog_3_method_21_code
def yX1_moveUp : MethodName := ⟨RX1, "moveUp", "(II)V"⟩
abbrev cX1_moveDown : ByteArray := prog_3_method_22_code
def yX1_moveDown : MethodName := ⟨RX1, "moveDown", "(II)V"⟩
abbrev cX1_moveEntry : ByteArray := prog_3_method_23_code
def yX1_moveEntry : MethodName := ⟨RX1, "moveEntry", "(II)V"⟩
abbrev cX1_firstSlotOfShare : ByteArray := prog_3_method_24_code
def yX1_firstSlotOfShare : MethodName := ⟨RX1, "firstSlotOfShare", "(II)I"⟩
abbrev cX1_entriesOutOfShare : ByteArray := prog_3_method_25_code
def yX1_entriesOutOfShare : MethodName := ⟨RX1, "entriesOutOfShare", "(I)I"⟩
abbrev cX1_moveIntoShares : ByteArray := prog_3_method_26_code
def yX1_moveIntoShares : MethodName := ⟨RX1, "moveIntoShares", "(I)V"⟩
abbrev cX1_moveToFront : ByteArray := prog_3_method_27_code
def yX1_moveToFront : MethodName := ⟨RX1, "moveToFront", "()I"⟩
abbrev cX1_slotFoundBy : ByteArray := prog_3_method_28_code
def yX1_slotFoundBy : MethodName := ⟨RX1, "slotFoundBy", "(I)I"⟩
abbrev cX1_keysFinding : ByteArray := prog_3_method_29_code
def yX1_keysFinding : MethodName := ⟨RX1, "keysFinding", "(I)I"⟩
abbrev cX1_entriesNeverFound : ByteArray := prog_3_method_30_code
def yX1_entriesNeverFound : MethodName := ⟨RX1, "entriesNeverFound", "()I"⟩
abbrev cX1_countSearch : ByteArray := prog_3_method_31_code
def yX1_countSearch : MethodName := ⟨RX1, "countSearch", "(II)V"⟩
abbrev cX1_slotHiding : ByteArray := prog_3_method_32_code
def yX1_slotHiding : MethodName := ⟨RX1, "slotHiding", "(I)I"⟩
abbrev cX1_entriesInBank : ByteArray := prog_3_method_33_code
def yX1_entriesInBank : MethodName := ⟨RX1, "entriesInBank", "(I)I"⟩
abbrev cX1_powerFor : ByteArray := prog_3_method_34_code
def yX1_powerFor : MethodName := ⟨RX1, "powerFor", "(I)I"⟩
abbrev cX1_commonMask : ByteArray := prog_3_method_35_code
def yX1_commonMask : MethodName := ⟨RX1, "commonMask", "(I)I"⟩
abbrev cX1_commonValue : ByteArray := prog_3_method_36_code
def yX1_commonValue : MethodName := ⟨RX1, "commonValue", "(I)I"⟩
abbrev cX1_firstEntryOfBank : ByteArray := prog_3_method_37_code
def yX1_firstEntryOfBank : MethodName := ⟨RX1, "firstEntryOfBank", "(I)I"⟩
def RX2 : String := "TernaryMatcher$RuleText"
def TX2 : u_T := fun k => match k with
  | 0 => ("TernaryMatcher$RuleText", "signs", "[I", true)
  | 1 => ("TernaryMatcher$RuleText", "length", "I", false)
  | 2 => ("TernaryMatcher$RuleText", "at", "I", false)
  | 3 => ("TernaryMatcher$RuleText", "rulesRead", "I", false)
  | 4 => ("TernaryMatcher$RuleText", "masks", "[I", true)
  | 5 => ("TernaryMatcher$RuleText", "values", "[I", true)
  | 6 => ("TernaryMatcher$RuleText", "ranks", "[I", true)
  | _ => ("TernaryMatcher$RuleText", "actions", "[I", true)
def tyX2 : Nat → FieldType := fun k => match k with
  | 0 => .array .int
  | 1 => .int
  | 2 => .int
  | 3 => .int
  | 4 => .array .int
  | 5 => .array .int
  | 6 => .array .int
  | _ => .array .int
abbrev wsX20 : List Cond := u_ws RX2 TX2 8
theorem nmX2 : ∀ a, a < 8 → ∀ b, b < 8 → a ≠ b → (TX2 a).2.1 ≠ (TX2 b).2.1 := by decide +kernel
theorem tyX2_ok : ∀ k, k < 8 → parseFieldDescriptor (TX2 k).2.2.1 = some (tyX2 k) := by decide +kernel
abbrev cX2_init : ByteArray := prog_4_method_1_code
def yX2_init : MethodName := ⟨RX2, "<init>", "()V"⟩
abbrev cX2_append : ByteArray := prog_4_method_2_code
def yX2_append : MethodName := ⟨RX2, "append", "(C)Z"⟩
abbrev cX2_readRules : ByteArray := prog_4_method_3_code
def yX2_readRules : MethodName := ⟨RX2, "readRules", "()I"⟩
abbrev cX2_sign : ByteArray := prog_4_method_4_code
def yX2_sign : MethodName := ⟨RX2, "sign", "()I"⟩
abbrev cX2_digit : ByteArray := prog_4_method_5_code
def yX2_digit : MethodName := ⟨RX2, "digit", "()I"⟩
abbrev cX2_skip : ByteArray := prog_4_method_6_code
def yX2_skip : MethodName := ⟨RX2, "skip", "(C)Z"⟩
abbrev cX2_readEntry : ByteArray := prog_4_method_7_code
def yX2_readEntry : MethodName := ⟨RX2, "readEntry", "(I)Z"⟩
abbrev cX2_readRank : ByteArray := prog_4_method_8_code
def yX2_readRank : MethodName := ⟨RX2, "readRank", "(I)Z"⟩
abbrev cX2_readAction : ByteArray := prog_4_method_9_code
def yX2_readAction : MethodName := ⟨RX2, "readAction", "(I)Z"⟩
def RX3 : String := "TernaryMatcher"
def TX3 : u_T := fun k => match k with
  | 0 => ("TernaryMatcher", "memory", "LTernaryMatcher$Memory;", true)
  | 1 => ("TernaryMatcher", "snapshot", "LTernaryMatcher$Memory;", true)
  | 2 => ("TernaryMatcher", "history", "LTernaryMatcher$History;", true)
  | 3 => ("TernaryMatcher", "text", "LTernaryMatcher$RuleText;", true)
  | _ => ("TernaryMatcher", "snapshotTaken", "Z", false)
def tyX3 : Nat → FieldType := fun k => match k with
  | 0 => .object "TernaryMatcher$Memory"
  | 1 => .object "TernaryMatcher$Memory"
  | 2 => .object "TernaryMatcher$History"
  | 3 => .object "TernaryMatcher$RuleText"
  | _ => .boolean
abbrev wsX30 : List Cond := u_ws RX3 TX3 5
theorem nmX3 : ∀ a, a < 5 → ∀ b, b < 5 → a ≠ b → (TX3 a).2.1 ≠ (TX3 b).2.1 := by decide +kernel
theorem tyX3_ok : ∀ k, k < 5 → parseFieldDescriptor (TX3 k).2.2.1 = some (tyX3 k) := by decide +kernel
abbrev cX3_init : ByteArray := prog_1_method_1_code
def yX3_init : MethodName := ⟨RX3, "<init>", "()V"⟩
abbrev cX3_addRule : ByteArray := prog_1_method_2_code
def yX3_addRule : MethodName := ⟨RX3, "addRule", "(IIII)I"⟩
abbrev cX3_addRange : ByteArray := prog_1_method_3_code
def yX3_addRange : MethodName := ⟨RX3, "addRange", "(IIII)I"⟩
abbrev cX3_remove : ByteArray := prog_1_method_4_code
def yX3_remove : MethodName := ⟨RX3, "remove", "(I)I"⟩
abbrev cX3_setPlacing : ByteArray := prog_1_method_5_code
def yX3_setPlacing : MethodName := ⟨RX3, "setPlacing", "(I)I"⟩
abbrev cX3_compact : ByteArray := prog_1_method_6_code
def yX3_compact : MethodName := ⟨RX3, "compact", "()I"⟩
abbrev cX3_spread : ByteArray := prog_1_method_7_code
def yX3_spread : MethodName := ⟨RX3, "spread", "()I"⟩
abbrev cX3_search : ByteArray := prog_1_method_8_code
def yX3_search : MethodName := ⟨RX3, "search", "(I)I"⟩
abbrev cX3_type : ByteArray := prog_1_method_9_code
def yX3_type : MethodName := ⟨RX3, "type", "(C)I"⟩
abbrev cX3_clearText : ByteArray := prog_1_method_10_code
def yX3_clearText : MethodName := ⟨RX3, "clearText", "()I"⟩
abbrev cX3_addText : ByteArray := prog_1_method_11_code
def yX3_addText : MethodName := ⟨RX3, "addText", "()I"⟩
abbrev cX3_undo : ByteArray := prog_1_method_12_code
def yX3_undo : MethodName := ⟨RX3, "undo", "()I"⟩
abbrev cX3_keep : ByteArray := prog_1_method_13_code
def yX3_keep : MethodName := ⟨RX3, "keep", "()I"⟩
abbrev cX3_restore : ByteArray := prog_1_method_14_code
def yX3_restore : MethodName := ⟨RX3, "restore", "()I"⟩
abbrev cX3_ruleIn : ByteArray := prog_1_method_15_code
def yX3_ruleIn : MethodName := ⟨RX3, "ruleIn", "(I)I"⟩
abbrev cX3_maskIn : ByteArray := prog_1_method_16_code
def yX3_maskIn : MethodName := ⟨RX3, "maskIn", "(I)I"⟩
abbrev cX3_valueIn : ByteArray := prog_1_method_17_code
def yX3_valueIn : MethodName := ⟨RX3, "valueIn", "(I)I"⟩
abbrev cX3_sortIn : ByteArray := prog_1_method_18_code
def yX3_sortIn : MethodName := ⟨RX3, "sortIn", "(I)I"⟩
abbrev cX3_slotOf : ByteArray := prog_1_method_19_code
def yX3_slotOf : MethodName := ⟨RX3, "slotOf", "(II)I"⟩
abbrev cX3_parts : ByteArray := prog_1_method_20_code
def yX3_parts : MethodName := ⟨RX3, "parts", "(I)I"⟩
abbrev cX3_rank : ByteArray := prog_1_method_21_code
def yX3_rank : MethodName := ⟨RX3, "rank", "(I)I"⟩
abbrev cX3_action : ByteArray := prog_1_method_22_code
def yX3_action : MethodName := ⟨RX3, "action", "(I)I"⟩
abbrev cX3_hits : ByteArray := prog_1_method_23_code
def yX3_hits : MethodName := ⟨RX3, "hits", "(I)I"⟩
abbrev cX3_find : ByteArray := prog_1_method_24_code
def yX3_find : MethodName := ⟨RX3, "find", "(I)I"⟩
abbrev cX3_power : ByteArray := prog_1_method_25_code
def yX3_power : MethodName := ⟨RX3, "power", "(I)I"⟩
abbrev cX3_filterMask : ByteArray := prog_1_method_26_code
def yX3_filterMask : MethodName := ⟨RX3, "filterMask", "(I)I"⟩
abbrev cX3_filterValue : ByteArray := prog_1_method_27_code
def yX3_filterValue : MethodName := ⟨RX3, "filterValue", "(I)I"⟩
abbrev cX3_hiddenBy : ByteArray := prog_1_method_28_code
def yX3_hiddenBy : MethodName := ⟨RX3, "hiddenBy", "(I)I"⟩
abbrev cX3_keysFor : ByteArray := prog_1_method_29_code
def yX3_keysFor : MethodName := ⟨RX3, "keysFor", "(I)I"⟩
abbrev cX3_wouldMove : ByteArray := prog_1_method_30_code
def yX3_wouldMove : MethodName := ⟨RX3, "wouldMove", "(I)I"⟩
abbrev cX3_entriesFor : ByteArray := prog_1_method_31_code
def yX3_entriesFor : MethodName := ⟨RX3, "entriesFor", "(II)I"⟩
abbrev cX3_total : ByteArray := prog_1_method_32_code
def yX3_total : MethodName := ⟨RX3, "total", "(I)I"⟩
abbrev cX3_rearrange : ByteArray := prog_1_method_33_code
def yX3_rearrange : MethodName := ⟨RX3, "rearrange", "(I)I"⟩
abbrev cX3_isSlot : ByteArray := prog_1_method_34_code
def yX3_isSlot : MethodName := ⟨RX3, "isSlot", "(I)Z"⟩
abbrev cX3_isBank : ByteArray := prog_1_method_35_code
def yX3_isBank : MethodName := ⟨RX3, "isBank", "(I)Z"⟩
abbrev cX3_isKey : ByteArray := prog_1_method_36_code
def yX3_isKey : MethodName := ⟨RX3, "isKey", "(I)Z"⟩
abbrev cX3_isRange : ByteArray := prog_1_method_37_code
def yX3_isRange : MethodName := ⟨RX3, "isRange", "(II)Z"⟩
abbrev cX3_isRank : ByteArray := prog_1_method_38_code
def yX3_isRank : MethodName := ⟨RX3, "isRank", "(I)Z"⟩
abbrev cX3_isAction : ByteArray := prog_1_method_39_code
def yX3_isAction : MethodName := ⟨RX3, "isAction", "(I)Z"⟩
abbrev cX3_sortOfMask : ByteArray := prog_1_method_40_code
def yX3_sortOfMask : MethodName := ⟨RX3, "sortOfMask", "(I)I"⟩
abbrev cX3_blocksOf : ByteArray := prog_1_method_41_code
def yX3_blocksOf : MethodName := ⟨RX3, "blocksOf", "(II)I"⟩
abbrev cX3_blockSize : ByteArray := prog_1_method_42_code
def yX3_blockSize : MethodName := ⟨RX3, "blockSize", "(II)I"⟩
abbrev cX3_copyState : ByteArray := prog_1_method_43_code
def yX3_copyState : MethodName := ⟨RX3, "copyState", "(LTernaryMatcher$Memory;LTernaryMatcher$Memory;)V"⟩
def RX4 : String := "TernaryMatcherModel"
def TX4 : u_T := fun k => match k with
  | 0 => ("TernaryMatcherModel", "now", "[I", true)
  | 1 => ("TernaryMatcherModel", "spare", "[I", true)
  | 2 => ("TernaryMatcherModel", "past", "[I", true)
  | 3 => ("TernaryMatcherModel", "states", "I", false)
  | 4 => ("TernaryMatcherModel", "kept", "[I", true)
  | 5 => ("TernaryMatcherModel", "isKept", "Z", false)
  | 6 => ("TernaryMatcherModel", "text", "[I", true)
  | 7 => ("TernaryMatcherModel", "length", "I", false)
  | 8 => ("TernaryMatcherModel", "told", "[I", true)
  | 9 => ("TernaryMatcherModel", "toldMany", "I", false)
  | _ => ("TernaryMatcherModel", "spot", "I", false)
def tyX4 : Nat → FieldType := fun k => match k with
  | 0 => .array .int
  | 1 => .array .int
  | 2 => .array .int
  | 3 => .int
  | 4 => .array .int
  | 5 => .boolean
  | 6 => .array .int
  | 7 => .int
  | 8 => .array .int
  | 9 => .int
  | _ => .int
abbrev wsX40 : List Cond := u_ws RX4 TX4 11
theorem nmX4 : ∀ a, a < 11 → ∀ b, b < 11 → a ≠ b → (TX4 a).2.1 ≠ (TX4 b).2.1 := by decide +kernel
theorem tyX4_ok : ∀ k, k < 11 → parseFieldDescriptor (TX4 k).2.2.1 = some (tyX4 k) := by decide +kernel
abbrev cX4_init : ByteArray := prog_6_method_1_code
def yX4_init : MethodName := ⟨RX4, "<init>", "()V"⟩
abbrev cX4_in : ByteArray := prog_6_method_2_code
def yX4_in : MethodName := ⟨RX4, "in", "(III)Z"⟩
abbrev cX4_at : ByteArray := prog_6_method_3_code
def yX4_at : MethodName := ⟨RX4, "at", "(II)I"⟩
abbrev cX4_isFree : ByteArray := prog_6_method_4_code
def yX4_isFree : MethodName := ⟨RX4, "isFree", "(I)Z"⟩
abbrev cX4_isSlot : ByteArray := prog_6_method_5_code
def yX4_isSlot : MethodName := ⟨RX4, "isSlot", "(I)Z"⟩
abbrev cX4_copyState : ByteArray := prog_6_method_6_code
def yX4_copyState : MethodName := ⟨RX4, "copyState", "([II[II)V"⟩
abbrev cX4_record : ByteArray := prog_6_method_7_code
def yX4_record : MethodName := ⟨RX4, "record", "()V"⟩
abbrev cX4_undo : ByteArray := prog_6_method_8_code
def yX4_undo : MethodName := ⟨RX4, "undo", "()I"⟩
abbrev cX4_keep : ByteArray := prog_6_method_9_code
def yX4_keep : MethodName := ⟨RX4, "keep", "()I"⟩
abbrev cX4_restore : ByteArray := prog_6_method_10_code
def yX4_restore : MethodName := ⟨RX4, "restore", "()I"⟩
abbrev cX4_entries : ByteArray := prog_6_method_11_code
def yX4_entries : MethodName := ⟨RX4, "entries", "()I"⟩
abbrev cX4_freeSlots : ByteArray := prog_6_method_12_code
def yX4_freeSlots : MethodName := ⟨RX4, "freeSlots", "()I"⟩
abbrev cX4_lastUpTo : ByteArray := prog_6_method_13_code
def yX4_lastUpTo : MethodName := ⟨RX4, "lastUpTo", "(I)I"⟩
abbrev cX4_firstAbove : ByteArray := prog_6_method_14_code
def yX4_firstAbove : MethodName := ⟨RX4, "firstAbove", "(I)I"⟩
abbrev cX4_freeBehind : ByteArray := prog_6_method_15_code
def yX4_freeBehind : MethodName := ⟨RX4, "freeBehind", "(I)I"⟩
abbrev cX4_freeAhead : ByteArray := prog_6_method_16_code
def yX4_freeAhead : MethodName := ⟨RX4, "freeAhead", "(I)I"⟩
abbrev cX4_copyEntry : ByteArray := prog_6_method_17_code
def yX4_copyEntry : MethodName := ⟨RX4, "copyEntry", "(II)V"⟩
abbrev cX4_moves : ByteArray := prog_6_method_18_code
def yX4_moves : MethodName := ⟨RX4, "moves", "(I)I"⟩
abbrev cX4_makeRoom : ByteArray := prog_6_method_19_code
def yX4_makeRoom : MethodName := ⟨RX4, "makeRoom", "(I)I"⟩
abbrev cX4_put : ByteArray := prog_6_method_20_code
def yX4_put : MethodName := ⟨RX4, "put", "(IIIIIII)V"⟩
abbrev cX4_clearSlot : ByteArray := prog_6_method_21_code
def yX4_clearSlot : MethodName := ⟨RX4, "clearSlot", "(I)V"⟩
abbrev cX4_isByte : ByteArray := prog_6_method_22_code
def yX4_isByte : MethodName := ⟨RX4, "isByte", "(I)Z"⟩
abbrev cX4_isRankAndAction : ByteArray := prog_6_method_23_code
def yX4_isRankAndAction : MethodName := ⟨RX4, "isRankAndAction", "(II)Z"⟩
abbrev cX4_isRange : ByteArray := prog_6_method_24_code
def yX4_isRange : MethodName := ⟨RX4, "isRange", "(II)Z"⟩
abbrev cX4_add : ByteArray := prog_6_method_25_code
def yX4_add : MethodName := ⟨RX4, "add", "(IIII)I"⟩
abbrev cX4_addRule : ByteArray := prog_6_method_26_code
def yX4_addRule : MethodName := ⟨RX4, "addRule", "(IIII)I"⟩
abbrev cX4_block : ByteArray := prog_6_method_27_code
def yX4_block : MethodName := ⟨RX4, "block", "(II)I"⟩
abbrev cX4_blocks : ByteArray := prog_6_method_28_code
def yX4_blocks : MethodName := ⟨RX4, "blocks", "(II)I"⟩
abbrev cX4_addRange : ByteArray := prog_6_method_29_code
def yX4_addRange : MethodName := ⟨RX4, "addRange", "(IIII)I"⟩
abbrev cX4_slotWith : ByteArray := prog_6_method_30_code
def yX4_slotWith : MethodName := ⟨RX4, "slotWith", "(II)I"⟩
abbrev cX4_isRule : ByteArray := prog_6_method_31_code
def yX4_isRule : MethodName := ⟨RX4, "isRule", "(I)Z"⟩
abbrev cX4_partsOf : ByteArray := prog_6_method_32_code
def yX4_partsOf : MethodName := ⟨RX4, "partsOf", "(I)I"⟩
abbrev cX4_remove : ByteArray := prog_6_method_33_code
def yX4_remove : MethodName := ⟨RX4, "remove", "(I)I"⟩
abbrev cX4_setPlacing : ByteArray := prog_6_method_34_code
def yX4_setPlacing : MethodName := ⟨RX4, "setPlacing", "(I)I"⟩
abbrev cX4_target : ByteArray := prog_6_method_35_code
def yX4_target : MethodName := ⟨RX4, "target", "(IIZ)I"⟩
abbrev cX4_rearrange : ByteArray := prog_6_method_36_code
def yX4_rearrange : MethodName := ⟨RX4, "rearrange", "(Z)I"⟩
abbrev cX4_compact : ByteArray := prog_6_method_37_code
def yX4_compact : MethodName := ⟨RX4, "compact", "()I"⟩
abbrev cX4_spread : ByteArray := prog_6_method_38_code
def yX4_spread : MethodName := ⟨RX4, "spread", "()I"⟩
abbrev cX4_matches : ByteArray := prog_6_method_39_code
def yX4_matches : MethodName := ⟨RX4, "matches", "(II)Z"⟩
abbrev cX4_slotFor : ByteArray := prog_6_method_40_code
def yX4_slotFor : MethodName := ⟨RX4, "slotFor", "(I)I"⟩
abbrev cX4_entriesIn : ByteArray := prog_6_method_41_code
def yX4_entriesIn : MethodName := ⟨RX4, "entriesIn", "(I)I"⟩
abbrev cX4_filter : ByteArray := prog_6_method_42_code
def yX4_filter : MethodName := ⟨RX4, "filter", "(IZ)I"⟩
abbrev cX4_powerOf : ByteArray := prog_6_method_43_code
def yX4_powerOf : MethodName := ⟨RX4, "powerOf", "(I)I"⟩
abbrev cX4_search : ByteArray := prog_6_method_44_code
def yX4_search : MethodName := ⟨RX4, "search", "(I)I"⟩
abbrev cX4_find : ByteArray := prog_6_method_45_code
def yX4_find : MethodName := ⟨RX4, "find", "(I)I"⟩
abbrev cX4_power : ByteArray := prog_6_method_46_code
def yX4_power : MethodName := ⟨RX4, "power", "(I)I"⟩
abbrev cX4_filterMask : ByteArray := prog_6_method_47_code
def yX4_filterMask : MethodName := ⟨RX4, "filterMask", "(I)I"⟩
abbrev cX4_filterValue : ByteArray := prog_6_method_48_code
def yX4_filterValue : MethodName := ⟨RX4, "filterValue", "(I)I"⟩
abbrev cX4_type : ByteArray := prog_6_method_49_code
def yX4_type : MethodName := ⟨RX4, "type", "(C)I"⟩
abbrev cX4_clearText : ByteArray := prog_6_method_50_code
def yX4_clearText : MethodName := ⟨RX4, "clearText", "()I"⟩
abbrev cX4_sees : ByteArray := prog_6_method_51_code
def yX4_sees : MethodName := ⟨RX4, "sees", "(II)Z"⟩
abbrev cX4_takes : ByteArray := prog_6_method_52_code
def yX4_takes : MethodName := ⟨RX4, "takes", "(I)Z"⟩
abbrev cX4_number : ByteArray := prog_6_method_53_code
def yX4_number : MethodName := ⟨RX4, "number", "(I)I"⟩
abbrev cX4_readRule : ByteArray := prog_6_method_54_code
def yX4_readRule : MethodName := ⟨RX4, "readRule", "()Z"⟩
abbrev cX4_readText : ByteArray := prog_6_method_55_code
def yX4_readText : MethodName := ⟨RX4, "readText", "()Z"⟩
abbrev cX4_addText : ByteArray := prog_6_method_56_code
def yX4_addText : MethodName := ⟨RX4, "addText", "()I"⟩
abbrev cX4_inSlot : ByteArray := prog_6_method_57_code
def yX4_inSlot : MethodName := ⟨RX4, "inSlot", "(II)I"⟩
abbrev cX4_ruleIn : ByteArray := prog_6_method_58_code
def yX4_ruleIn : MethodName := ⟨RX4, "ruleIn", "(I)I"⟩
abbrev cX4_maskIn : ByteArray := prog_6_method_59_code
def yX4_maskIn : MethodName := ⟨RX4, "maskIn", "(I)I"⟩
abbrev cX4_valueIn : ByteArray := prog_6_method_60_code
def yX4_valueIn : MethodName := ⟨RX4, "valueIn", "(I)I"⟩
abbrev cX4_sortIn : ByteArray := prog_6_method_61_code
def yX4_sortIn : MethodName := ⟨RX4, "sortIn", "(I)I"⟩
abbrev cX4_slotOf : ByteArray := prog_6_method_62_code
def yX4_slotOf : MethodName := ⟨RX4, "slotOf", "(II)I"⟩
abbrev cX4_parts : ByteArray := prog_6_method_63_code
def yX4_parts : MethodName := ⟨RX4, "parts", "(I)I"⟩
abbrev cX4_ofRule : ByteArray := prog_6_method_64_code
def yX4_ofRule : MethodName := ⟨RX4, "ofRule", "(II)I"⟩
abbrev cX4_rank : ByteArray := prog_6_method_65_code
def yX4_rank : MethodName := ⟨RX4, "rank", "(I)I"⟩
abbrev cX4_action : ByteArray := prog_6_method_66_code
def yX4_action : MethodName := ⟨RX4, "action", "(I)I"⟩
abbrev cX4_hits : ByteArray := prog_6_method_67_code
def yX4_hits : MethodName := ⟨RX4, "hits", "(I)I"⟩
abbrev cX4_hides : ByteArray := prog_6_method_68_code
def yX4_hides : MethodName := ⟨RX4, "hides", "(II)Z"⟩
abbrev cX4_hiddenBy : ByteArray := prog_6_method_69_code
def yX4_hiddenBy : MethodName := ⟨RX4, "hiddenBy", "(I)I"⟩
abbrev cX4_keysWith : ByteArray := prog_6_method_70_code
def yX4_keysWith : MethodName := ⟨RX4, "keysWith", "(I)I"⟩
abbrev cX4_keysFor : ByteArray := prog_6_method_71_code
def yX4_keysFor : MethodName := ⟨RX4, "keysFor", "(I)I"⟩
abbrev cX4_wouldMove : ByteArray := prog_6_method_72_code
def yX4_wouldMove : MethodName := ⟨RX4, "wouldMove", "(I)I"⟩
abbrev cX4_entriesFor : ByteArray := prog_6_method_73_code
def yX4_entriesFor : MethodName := ⟨RX4, "entriesFor", "(II)I"⟩
abbrev cX4_rules : ByteArray := prog_6_method_74_code
def yX4_rules : MethodName := ⟨RX4, "rules", "()I"⟩
abbrev cX4_entriesWithoutKeys : ByteArray := prog_6_method_75_code
def yX4_entriesWithoutKeys : MethodName := ⟨RX4, "entriesWithoutKeys", "()I"⟩
abbrev cX4_total : ByteArray := prog_6_method_76_code
def yX4_total : MethodName := ⟨RX4, "total", "(I)I"⟩
def RJ6 : String := "java/lang/Integer"
def TJ6 : u_T := fun k => match k with
  | _ => ("", "", "", false)
def tyJ6 : Nat → FieldType := fun k => match k with
  | _ => .int
abbrev wsJ60 : List Cond := u_ws RJ6 TJ6 0
theorem nmJ6 : ∀ a, a < 0 → ∀ b, b < 0 → a ≠ b → (TJ6 a).2.1 ≠ (TJ6 b).2.1 := by decide +kernel
theorem tyJ6_ok : ∀ k, k < 0 → parseFieldDescriptor (TJ6 k).2.2.1 = some (tyJ6 k) := by decide +kernel
abbrev cJ6_bitCount_0f7a4 : ByteArray := prog_7_method_49_code
def yJ6_bitCount_0f7a4 : MethodName := ⟨RJ6, "bitCount", "(I)I"⟩
def RJ9 : String := "java/lang/Math"
def TJ9 : u_T := fun k => match k with
  | _ => ("", "", "", false)
def tyJ9 : Nat → FieldType := fun k => match k with
  | _ => .int
abbrev wsJ90 : List Cond := u_ws RJ9 TJ9 0
theorem nmJ9 : ∀ a, a < 0 → ∀ b, b < 0 → a ≠ b → (TJ9 a).2.1 ≠ (TJ9 b).2.1 := by decide +kernel
theorem tyJ9_ok : ∀ k, k < 0 → parseFieldDescriptor (TJ9 k).2.2.1 = some (tyJ9 k) := by decide +kernel
abbrev cJ9_floorMod_7cf53 : ByteArray := prog_8_method_50_code
def yJ9_floorMod_7cf53 : MethodName := ⟨RJ9, "floorMod", "(II)I"⟩
abbrev cJ9_min_7cf53 : ByteArray := prog_8_method_69_code
def yJ9_min_7cf53 : MethodName := ⟨RJ9, "min", "(II)I"⟩
def RL : String := "TernaryMatcherLaw"
abbrev cL_law : ByteArray := code
def yL_law : MethodName := ⟨RL, "law", "([I)Z"⟩
/-- the good words of the tables: what a callee may take from its caller -/
def gw : List Cond := lw_tbl.filter goodWord
theorem xg_r {w : Cond} {i : Nat} (h : tables_1[i]? = some w) (hg : goodWord w = true) : w ∈ gw := List.mem_filter.mpr ⟨List.mem_append_right _ (List.mem_of_getElem? h), hg⟩
theorem xg_l {w : Cond} {i : Nat} (h : (k2_sels lw_privs)[i]? = some w) (hg : goodWord w = true) : w ∈ gw := List.mem_filter.mpr ⟨List.mem_append_left _ (List.mem_of_getElem? h), hg⟩
def xisNest : Cond → Bool
  | .methodLinkNest .. => true
  | .fieldLinkNest .. => true
  | _ => false
def xnw : List Cond := tables_1.filter xisNest
theorem xn_r {w : Cond} {i : Nat} (h : tables_1[i]? = some w) (hg : xisNest w = true) : w ∈ xnw := List.mem_filter.mpr ⟨List.mem_of_getElem? h, hg⟩
/-- a method: its name, bytes, locals, what it returns, how deep its calls go -/
abbrev xMI : Type := MethodName × ByteArray × Nat × Option FieldType × Nat
def xCal (mi : xMI) (n : Nat) : Prop := Cond.code mi.1 mi.2.1 mi.2.2.1 mi.2.2.2.1 ∈ gw ∧ Cond.initialized mi.1.cls ∈ gw ∧ (mi.1.cls ≠ "java/lang/invoke/MethodHandle" ∧ mi.1.cls ≠ "java/lang/invoke/VarHandle" ∧ (parseMethodDescriptor mi.1.desc).map (fun d => d.parameters.length) = some n) ∧ plainFor mi.1 = true ∧ mi.2.2.1 ≤ 11
def xVir (mi : xMI) : Prop := Cond.instanceMethod mi.1 ∈ gw ∧ Cond.selects mi.1.cls mi.1 mi.1 ∈ gw
def xSta (mi : xMI) : Prop := Cond.static mi.1 ∈ gw
theorem xi_X0 : Cond.initialized RX0 ∈ gw := xg_r (i := 3) (by decide +kernel) rfl
theorem xi_X1 : Cond.initialized RX1 ∈ gw := xg_r (i := 2) (by decide +kernel) rfl
theorem xi_X2 : Cond.initialized RX2 ∈ gw := xg_r (i := 4) (by decide +kernel) rfl
theorem xi_X3 : Cond.initialized RX3 ∈ gw := xg_r (i := 1) (by decide +kernel) rfl
theorem xi_X4 : Cond.initialized RX4 ∈ gw := xg_r (i := 5) (by decide +kernel) rfl
theorem xi_J6 : Cond.initialized RJ6 ∈ gw := xg_r (i := 7) (by decide +kernel) rfl
theorem xi_J9 : Cond.initialized RJ9 ∈ gw := xg_r (i := 6) (by decide +kernel) rfl
theorem xi_L : Cond.initialized RL ∈ gw := xg_r (i := 0) (by decide +kernel) rfl
def mX3_init : xMI := (yX3_init, cX3_init, 1, none, 2)
theorem fX3_init : xCal mX3_init 0 := ⟨xg_r (i := 12) (by decide +kernel) rfl, xi_X3, by decide +kernel, by decide +kernel, by decide⟩
theorem viX3_init : Cond.instanceMethod yX3_init ∈ gw := xg_r (i := 11) (by decide +kernel) rfl
def mX1_init : xMI := (yX1_init, cX1_init, 2, none, 0)
theorem fX1_init : xCal mX1_init 0 := ⟨xg_r (i := 20) (by decide +kernel) rfl, xi_X1, by decide +kernel, by decide +kernel, by decide⟩
theorem viX1_init : Cond.instanceMethod yX1_init ∈ gw := xg_r (i := 19) (by decide +kernel) rfl
def mX0_init : xMI := (yX0_init, cX0_init, 2, none, 1)
theorem fX0_init : xCal mX0_init 0 := ⟨xg_r (i := 75) (by decide +kernel) rfl, xi_X0, by decide +kernel, by decide +kernel, by decide⟩
theorem viX0_init : Cond.instanceMethod yX0_init ∈ gw := xg_r (i := 74) (by decide +kernel) rfl
def mX2_init : xMI := (yX2_init, cX2_init, 1, none, 0)
theorem fX2_init : xCal mX2_init 0 := ⟨xg_r (i := 95) (by decide +kernel) rfl, xi_X2, by decide +kernel, by decide +kernel, by decide⟩
theorem viX2_init : Cond.instanceMethod yX2_init ∈ gw := xg_r (i := 94) (by decide +kernel) rfl
def mX3_addRule : xMI := (yX3_addRule, cX3_addRule, 5, (some .int), 5)
theorem fX3_addRule : xCal mX3_addRule 4 := ⟨xg_r (i := 147) (by decide +kernel) rfl, xi_X3, by decide +kernel, by decide +kernel, by decide⟩
theorem vX3_addRule : xVir mX3_addRule := ⟨xg_r (i := 145) (by decide +kernel) rfl, xg_r (i := 146) (by decide +kernel) rfl⟩
def mX3_isKey : xMI := (yX3_isKey, cX3_isKey, 1, (some .boolean), 0)
theorem fX3_isKey : xCal mX3_isKey 1 := ⟨xg_r (i := 150) (by decide +kernel) rfl, xi_X3, by decide +kernel, by decide +kernel, by decide⟩
theorem sX3_isKey : xSta mX3_isKey := xg_r (i := 149) (by decide +kernel) rfl
def mX3_isRank : xMI := (yX3_isRank, cX3_isRank, 1, (some .boolean), 0)
theorem fX3_isRank : xCal mX3_isRank 1 := ⟨xg_r (i := 153) (by decide +kernel) rfl, xi_X3, by decide +kernel, by decide +kernel, by decide⟩
theorem sX3_isRank : xSta mX3_isRank := xg_r (i := 152) (by decide +kernel) rfl
def mX3_isAction : xMI := (yX3_isAction, cX3_isAction, 1, (some .boolean), 0)
theorem fX3_isAction : xCal mX3_isAction 1 := ⟨xg_r (i := 156) (by decide +kernel) rfl, xi_X3, by decide +kernel, by decide +kernel, by decide⟩
theorem sX3_isAction : xSta mX3_isAction := xg_r (i := 155) (by decide +kernel) rfl
def mX1_freeSlots : xMI := (yX1_freeSlots, cX1_freeSlots, 1, (some .int), 3)
theorem fX1_freeSlots : xCal mX1_freeSlots 0 := ⟨xg_r (i := 160) (by decide +kernel) rfl, xi_X1, by decide +kernel, by decide +kernel, by decide⟩
theorem vX1_freeSlots : xVir mX1_freeSlots := ⟨xg_r (i := 158) (by decide +kernel) rfl, xg_r (i := 159) (by decide +kernel) rfl⟩
def mX1_entries : xMI := (yX1_entries, cX1_entries, 3, (some .int), 2)
theorem fX1_entries : xCal mX1_entries 0 := ⟨xg_r (i := 164) (by decide +kernel) rfl, xi_X1, by decide +kernel, by decide +kernel, by decide⟩
theorem vX1_entries : xVir mX1_entries := ⟨xg_r (i := 162) (by decide +kernel) rfl, xg_r (i := 163) (by decide +kernel) rfl⟩
def mX1_entriesInBank : xMI := (yX1_entriesInBank, cX1_entriesInBank, 4, (some .int), 1)
theorem fX1_entriesInBank : xCal mX1_entriesInBank 1 := ⟨xg_r (i := 168) (by decide +kernel) rfl, xi_X1, by decide +kernel, by decide +kernel, by decide⟩
theorem vX1_entriesInBank : xVir mX1_entriesInBank := ⟨xg_r (i := 166) (by decide +kernel) rfl, xg_r (i := 167) (by decide +kernel) rfl⟩
def mX1_holdsEntry : xMI := (yX1_holdsEntry, cX1_holdsEntry, 2, (some .boolean), 0)
theorem fX1_holdsEntry : xCal mX1_holdsEntry 1 := ⟨xg_r (i := 172) (by decide +kernel) rfl, xi_X1, by decide +kernel, by decide +kernel, by decide⟩
theorem vX1_holdsEntry : xVir mX1_holdsEntry := ⟨xg_r (i := 170) (by decide +kernel) rfl, xg_r (i := 171) (by decide +kernel) rfl⟩
def mX0_record : xMI := (yX0_record, cX0_record, 2, none, 2)
theorem fX0_record : xCal mX0_record 1 := ⟨xg_r (i := 176) (by decide +kernel) rfl, xi_X0, by decide +kernel, by decide +kernel, by decide⟩
theorem vX0_record : xVir mX0_record := ⟨xg_r (i := 174) (by decide +kernel) rfl, xg_r (i := 175) (by decide +kernel) rfl⟩
def mJ9_floorMod_7cf53 : xMI := (yJ9_floorMod_7cf53, cJ9_floorMod_7cf53, 3, (some .int), 0)
theorem fJ9_floorMod_7cf53 : xCal mJ9_floorMod_7cf53 2 := ⟨xg_r (i := 179) (by decide +kernel) rfl, xi_J9, by decide +kernel, by decide +kernel, by decide⟩
theorem sJ9_floorMod_7cf53 : xSta mJ9_floorMod_7cf53 := xg_r (i := 178) (by decide +kernel) rfl
def mX3_copyState : xMI := (yX3_copyState, cX3_copyState, 2, none, 1)
theorem fX3_copyState : xCal mX3_copyState 2 := ⟨xg_r (i := 182) (by decide +kernel) rfl, xi_X3, by decide +kernel, by decide +kernel, by decide⟩
theorem sX3_copyState : xSta mX3_copyState := xg_r (i := 181) (by decide +kernel) rfl
def mX1_copyFrom : xMI := (yX1_copyFrom, cX1_copyFrom, 3, none, 0)
theorem fX1_copyFrom : xCal mX1_copyFrom 1 := ⟨xg_r (i := 186) (by decide +kernel) rfl, xi_X1, by decide +kernel, by decide +kernel, by decide⟩
theorem vX1_copyFrom : xVir mX1_copyFrom := ⟨xg_r (i := 184) (by decide +kernel) rfl, xg_r (i := 185) (by decide +kernel) rfl⟩
def mX1_addSingle : xMI := (yX1_addSingle, cX1_addSingle, 6, (some .int), 4)
theorem fX1_addSingle : xCal mX1_addSingle 4 := ⟨xg_r (i := 190) (by decide +kernel) rfl, xi_X1, by decide +kernel, by decide +kernel, by decide⟩
theorem vX1_addSingle : xVir mX1_addSingle := ⟨xg_r (i := 188) (by decide +kernel) rfl, xg_r (i := 189) (by decide +kernel) rfl⟩
def mX1_openSlot : xMI := (yX1_openSlot, cX1_openSlot, 6, (some .int), 3)
theorem fX1_openSlot : xCal mX1_openSlot 1 := ⟨xg_r (i := 194) (by decide +kernel) rfl, xi_X1, by decide +kernel, by decide +kernel, by decide⟩
theorem vX1_openSlot : xVir mX1_openSlot := ⟨xg_r (i := 193) (by decide +kernel) rfl, xg_l (i := 0) (by decide +kernel) rfl⟩
def mX1_lastSlotUpTo : xMI := (yX1_lastSlotUpTo, cX1_lastSlotUpTo, 3, (some .int), 1)
theorem fX1_lastSlotUpTo : xCal mX1_lastSlotUpTo 1 := ⟨xg_r (i := 198) (by decide +kernel) rfl, xi_X1, by decide +kernel, by decide +kernel, by decide⟩
theorem vX1_lastSlotUpTo : xVir mX1_lastSlotUpTo := ⟨xg_r (i := 197) (by decide +kernel) rfl, xg_l (i := 1) (by decide +kernel) rfl⟩
def mX1_firstSlotBeyond : xMI := (yX1_firstSlotBeyond, cX1_firstSlotBeyond, 3, (some .int), 1)
theorem fX1_firstSlotBeyond : xCal mX1_firstSlotBeyond 1 := ⟨xg_r (i := 202) (by decide +kernel) rfl, xi_X1, by decide +kernel, by decide +kernel, by decide⟩
theorem vX1_firstSlotBeyond : xVir mX1_firstSlotBeyond := ⟨xg_r (i := 201) (by decide +kernel) rfl, xg_l (i := 2) (by decide +kernel) rfl⟩
def mX1_placeBetween : xMI := (yX1_placeBetween, cX1_placeBetween, 3, (some .int), 0)
theorem fX1_placeBetween : xCal mX1_placeBetween 2 := ⟨xg_r (i := 206) (by decide +kernel) rfl, xi_X1, by decide +kernel, by decide +kernel, by decide⟩
theorem vX1_placeBetween : xVir mX1_placeBetween := ⟨xg_r (i := 205) (by decide +kernel) rfl, xg_l (i := 3) (by decide +kernel) rfl⟩
def mX1_movesUpFrom : xMI := (yX1_movesUpFrom, cX1_movesUpFrom, 3, (some .int), 1)
theorem fX1_movesUpFrom : xCal mX1_movesUpFrom 1 := ⟨xg_r (i := 210) (by decide +kernel) rfl, xi_X1, by decide +kernel, by decide +kernel, by decide⟩
theorem vX1_movesUpFrom : xVir mX1_movesUpFrom := ⟨xg_r (i := 209) (by decide +kernel) rfl, xg_l (i := 4) (by decide +kernel) rfl⟩
def mX1_movesDownFrom : xMI := (yX1_movesDownFrom, cX1_movesDownFrom, 3, (some .int), 1)
theorem fX1_movesDownFrom : xCal mX1_movesDownFrom 1 := ⟨xg_r (i := 214) (by decide +kernel) rfl, xi_X1, by decide +kernel, by decide +kernel, by decide⟩
theorem vX1_movesDownFrom : xVir mX1_movesDownFrom := ⟨xg_r (i := 213) (by decide +kernel) rfl, xg_l (i := 5) (by decide +kernel) rfl⟩
def mX1_moveUp : xMI := (yX1_moveUp, cX1_moveUp, 4, none, 2)
theorem fX1_moveUp : xCal mX1_moveUp 2 := ⟨xg_r (i := 218) (by decide +kernel) rfl, xi_X1, by decide +kernel, by decide +kernel, by decide⟩
theorem vX1_moveUp : xVir mX1_moveUp := ⟨xg_r (i := 217) (by decide +kernel) rfl, xg_l (i := 6) (by decide +kernel) rfl⟩
def mX1_moveEntry : xMI := (yX1_moveEntry, cX1_moveEntry, 3, none, 1)
theorem fX1_moveEntry : xCal mX1_moveEntry 2 := ⟨xg_r (i := 222) (by decide +kernel) rfl, xi_X1, by decide +kernel, by decide +kernel, by decide⟩
theorem vX1_moveEntry : xVir mX1_moveEntry := ⟨xg_r (i := 221) (by decide +kernel) rfl, xg_l (i := 7) (by decide +kernel) rfl⟩
def mX3_isSlot : xMI := (yX3_isSlot, cX3_isSlot, 1, (some .boolean), 0)
theorem fX3_isSlot : xCal mX3_isSlot 1 := ⟨xg_r (i := 225) (by decide +kernel) rfl, xi_X3, by decide +kernel, by decide +kernel, by decide⟩
theorem sX3_isSlot : xSta mX3_isSlot := xg_r (i := 224) (by decide +kernel) rfl
def mX1_moveDown : xMI := (yX1_moveDown, cX1_moveDown, 4, none, 2)
theorem fX1_moveDown : xCal mX1_moveDown 2 := ⟨xg_r (i := 229) (by decide +kernel) rfl, xi_X1, by decide +kernel, by decide +kernel, by decide⟩
theorem vX1_moveDown : xVir mX1_moveDown := ⟨xg_r (i := 228) (by decide +kernel) rfl, xg_l (i := 8) (by decide +kernel) rfl⟩
def mX1_fill : xMI := (yX1_fill, cX1_fill, 8, none, 1)
theorem fX1_fill : xCal mX1_fill 7 := ⟨xg_r (i := 233) (by decide +kernel) rfl, xi_X1, by decide +kernel, by decide +kernel, by decide⟩
theorem vX1_fill : xVir mX1_fill := ⟨xg_r (i := 232) (by decide +kernel) rfl, xg_l (i := 9) (by decide +kernel) rfl⟩
def mX3_addRange : xMI := (yX3_addRange, cX3_addRange, 5, (some .int), 5)
theorem fX3_addRange : xCal mX3_addRange 4 := ⟨xg_r (i := 237) (by decide +kernel) rfl, xi_X3, by decide +kernel, by decide +kernel, by decide⟩
theorem vX3_addRange : xVir mX3_addRange := ⟨xg_r (i := 235) (by decide +kernel) rfl, xg_r (i := 236) (by decide +kernel) rfl⟩
def mX3_isRange : xMI := (yX3_isRange, cX3_isRange, 2, (some .boolean), 1)
theorem fX3_isRange : xCal mX3_isRange 2 := ⟨xg_r (i := 240) (by decide +kernel) rfl, xi_X3, by decide +kernel, by decide +kernel, by decide⟩
theorem sX3_isRange : xSta mX3_isRange := xg_r (i := 239) (by decide +kernel) rfl
def mX3_blocksOf : xMI := (yX3_blocksOf, cX3_blocksOf, 4, (some .int), 1)
theorem fX3_blocksOf : xCal mX3_blocksOf 2 := ⟨xg_r (i := 243) (by decide +kernel) rfl, xi_X3, by decide +kernel, by decide +kernel, by decide⟩
theorem sX3_blocksOf : xSta mX3_blocksOf := xg_r (i := 242) (by decide +kernel) rfl
def mX3_blockSize : xMI := (yX3_blockSize, cX3_blockSize, 4, (some .int), 0)
theorem fX3_blockSize : xCal mX3_blockSize 2 := ⟨xg_r (i := 246) (by decide +kernel) rfl, xi_X3, by decide +kernel, by decide +kernel, by decide⟩
theorem sX3_blockSize : xSta mX3_blockSize := xg_r (i := 245) (by decide +kernel) rfl
def mX1_addBlocks : xMI := (yX1_addBlocks, cX1_addBlocks, 9, (some .int), 4)
theorem fX1_addBlocks : xCal mX1_addBlocks 4 := ⟨xg_r (i := 250) (by decide +kernel) rfl, xi_X1, by decide +kernel, by decide +kernel, by decide⟩
theorem vX1_addBlocks : xVir mX1_addBlocks := ⟨xg_r (i := 248) (by decide +kernel) rfl, xg_r (i := 249) (by decide +kernel) rfl⟩
def mX3_remove : xMI := (yX3_remove, cX3_remove, 3, (some .int), 3)
theorem fX3_remove : xCal mX3_remove 1 := ⟨xg_r (i := 255) (by decide +kernel) rfl, xi_X3, by decide +kernel, by decide +kernel, by decide⟩
theorem vX3_remove : xVir mX3_remove := ⟨xg_r (i := 253) (by decide +kernel) rfl, xg_r (i := 254) (by decide +kernel) rfl⟩
def mX1_entriesOf : xMI := (yX1_entriesOf, cX1_entriesOf, 4, (some .int), 1)
theorem fX1_entriesOf : xCal mX1_entriesOf 1 := ⟨xg_r (i := 259) (by decide +kernel) rfl, xi_X1, by decide +kernel, by decide +kernel, by decide⟩
theorem vX1_entriesOf : xVir mX1_entriesOf := ⟨xg_r (i := 257) (by decide +kernel) rfl, xg_r (i := 258) (by decide +kernel) rfl⟩
def mX1_dropEntriesOf : xMI := (yX1_dropEntriesOf, cX1_dropEntriesOf, 3, none, 0)
theorem fX1_dropEntriesOf : xCal mX1_dropEntriesOf 1 := ⟨xg_r (i := 263) (by decide +kernel) rfl, xi_X1, by decide +kernel, by decide +kernel, by decide⟩
theorem vX1_dropEntriesOf : xVir mX1_dropEntriesOf := ⟨xg_r (i := 261) (by decide +kernel) rfl, xg_r (i := 262) (by decide +kernel) rfl⟩
def mX3_setPlacing : xMI := (yX3_setPlacing, cX3_setPlacing, 3, (some .int), 3)
theorem fX3_setPlacing : xCal mX3_setPlacing 1 := ⟨xg_r (i := 267) (by decide +kernel) rfl, xi_X3, by decide +kernel, by decide +kernel, by decide⟩
theorem vX3_setPlacing : xVir mX3_setPlacing := ⟨xg_r (i := 265) (by decide +kernel) rfl, xg_r (i := 266) (by decide +kernel) rfl⟩
def mX3_compact : xMI := (yX3_compact, cX3_compact, 1, (some .int), 5)
theorem fX3_compact : xCal mX3_compact 0 := ⟨xg_r (i := 271) (by decide +kernel) rfl, xi_X3, by decide +kernel, by decide +kernel, by decide⟩
theorem vX3_compact : xVir mX3_compact := ⟨xg_r (i := 269) (by decide +kernel) rfl, xg_r (i := 270) (by decide +kernel) rfl⟩
def mX3_rearrange : xMI := (yX3_rearrange, cX3_rearrange, 3, (some .int), 4)
theorem fX3_rearrange : xCal mX3_rearrange 1 := ⟨xg_r (i := 275) (by decide +kernel) rfl, xi_X3, by decide +kernel, by decide +kernel, by decide⟩
theorem vX3_rearrange : xVir mX3_rearrange := ⟨xg_r (i := 274) (by decide +kernel) rfl, xg_l (i := 10) (by decide +kernel) rfl⟩
def mX1_entriesOutOfShare : xMI := (yX1_entriesOutOfShare, cX1_entriesOutOfShare, 5, (some .int), 1)
theorem fX1_entriesOutOfShare : xCal mX1_entriesOutOfShare 1 := ⟨xg_r (i := 279) (by decide +kernel) rfl, xi_X1, by decide +kernel, by decide +kernel, by decide⟩
theorem vX1_entriesOutOfShare : xVir mX1_entriesOutOfShare := ⟨xg_r (i := 277) (by decide +kernel) rfl, xg_r (i := 278) (by decide +kernel) rfl⟩
def mX1_firstSlotOfShare : xMI := (yX1_firstSlotOfShare, cX1_firstSlotOfShare, 2, (some .int), 0)
theorem fX1_firstSlotOfShare : xCal mX1_firstSlotOfShare 2 := ⟨xg_r (i := 282) (by decide +kernel) rfl, xi_X1, by decide +kernel, by decide +kernel, by decide⟩
theorem sX1_firstSlotOfShare : xSta mX1_firstSlotOfShare := xg_r (i := 281) (by decide +kernel) rfl
def mX1_moveIntoShares : xMI := (yX1_moveIntoShares, cX1_moveIntoShares, 4, none, 3)
theorem fX1_moveIntoShares : xCal mX1_moveIntoShares 1 := ⟨xg_r (i := 286) (by decide +kernel) rfl, xi_X1, by decide +kernel, by decide +kernel, by decide⟩
theorem vX1_moveIntoShares : xVir mX1_moveIntoShares := ⟨xg_r (i := 284) (by decide +kernel) rfl, xg_r (i := 285) (by decide +kernel) rfl⟩
def mX1_moveToFront : xMI := (yX1_moveToFront, cX1_moveToFront, 3, (some .int), 2)
theorem fX1_moveToFront : xCal mX1_moveToFront 0 := ⟨xg_r (i := 290) (by decide +kernel) rfl, xi_X1, by decide +kernel, by decide +kernel, by decide⟩
theorem vX1_moveToFront : xVir mX1_moveToFront := ⟨xg_r (i := 289) (by decide +kernel) rfl, xg_l (i := 11) (by decide +kernel) rfl⟩
def mX3_spread : xMI := (yX3_spread, cX3_spread, 1, (some .int), 5)
theorem fX3_spread : xCal mX3_spread 0 := ⟨xg_r (i := 294) (by decide +kernel) rfl, xi_X3, by decide +kernel, by decide +kernel, by decide⟩
theorem vX3_spread : xVir mX3_spread := ⟨xg_r (i := 292) (by decide +kernel) rfl, xg_r (i := 293) (by decide +kernel) rfl⟩
def mX3_search : xMI := (yX3_search, cX3_search, 3, (some .int), 6)
theorem fX3_search : xCal mX3_search 1 := ⟨xg_r (i := 299) (by decide +kernel) rfl, xi_X3, by decide +kernel, by decide +kernel, by decide⟩
theorem vX3_search : xVir mX3_search := ⟨xg_r (i := 297) (by decide +kernel) rfl, xg_r (i := 298) (by decide +kernel) rfl⟩
def mX1_slotFoundBy : xMI := (yX1_slotFoundBy, cX1_slotFoundBy, 3, (some .int), 1)
theorem fX1_slotFoundBy : xCal mX1_slotFoundBy 1 := ⟨xg_r (i := 303) (by decide +kernel) rfl, xi_X1, by decide +kernel, by decide +kernel, by decide⟩
theorem vX1_slotFoundBy : xVir mX1_slotFoundBy := ⟨xg_r (i := 301) (by decide +kernel) rfl, xg_r (i := 302) (by decide +kernel) rfl⟩
def mX1_countSearch : xMI := (yX1_countSearch, cX1_countSearch, 5, none, 5)
theorem fX1_countSearch : xCal mX1_countSearch 2 := ⟨xg_r (i := 307) (by decide +kernel) rfl, xi_X1, by decide +kernel, by decide +kernel, by decide⟩
theorem vX1_countSearch : xVir mX1_countSearch := ⟨xg_r (i := 305) (by decide +kernel) rfl, xg_r (i := 306) (by decide +kernel) rfl⟩
def mX1_powerFor : xMI := (yX1_powerFor, cX1_powerFor, 4, (some .int), 4)
theorem fX1_powerFor : xCal mX1_powerFor 1 := ⟨xg_r (i := 311) (by decide +kernel) rfl, xi_X1, by decide +kernel, by decide +kernel, by decide⟩
theorem vX1_powerFor : xVir mX1_powerFor := ⟨xg_r (i := 309) (by decide +kernel) rfl, xg_r (i := 310) (by decide +kernel) rfl⟩
def mX1_commonMask : xMI := (yX1_commonMask, cX1_commonMask, 6, (some .int), 2)
theorem fX1_commonMask : xCal mX1_commonMask 1 := ⟨xg_r (i := 315) (by decide +kernel) rfl, xi_X1, by decide +kernel, by decide +kernel, by decide⟩
theorem vX1_commonMask : xVir mX1_commonMask := ⟨xg_r (i := 313) (by decide +kernel) rfl, xg_r (i := 314) (by decide +kernel) rfl⟩
def mX1_firstEntryOfBank : xMI := (yX1_firstEntryOfBank, cX1_firstEntryOfBank, 3, (some .int), 1)
theorem fX1_firstEntryOfBank : xCal mX1_firstEntryOfBank 1 := ⟨xg_r (i := 319) (by decide +kernel) rfl, xi_X1, by decide +kernel, by decide +kernel, by decide⟩
theorem vX1_firstEntryOfBank : xVir mX1_firstEntryOfBank := ⟨xg_r (i := 318) (by decide +kernel) rfl, xg_l (i := 12) (by decide +kernel) rfl⟩
def mX1_commonValue : xMI := (yX1_commonValue, cX1_commonValue, 3, (some .int), 3)
theorem fX1_commonValue : xCal mX1_commonValue 1 := ⟨xg_r (i := 323) (by decide +kernel) rfl, xi_X1, by decide +kernel, by decide +kernel, by decide⟩
theorem vX1_commonValue : xVir mX1_commonValue := ⟨xg_r (i := 321) (by decide +kernel) rfl, xg_r (i := 322) (by decide +kernel) rfl⟩
def mX1_told : xMI := (yX1_told, cX1_told, 3, (some .int), 1)
theorem fX1_told : xCal mX1_told 2 := ⟨xg_r (i := 327) (by decide +kernel) rfl, xi_X1, by decide +kernel, by decide +kernel, by decide⟩
theorem vX1_told : xVir mX1_told := ⟨xg_r (i := 325) (by decide +kernel) rfl, xg_r (i := 326) (by decide +kernel) rfl⟩
def mX3_type : xMI := (yX3_type, cX3_type, 2, (some .int), 1)
theorem fX3_type : xCal mX3_type 1 := ⟨xg_r (i := 331) (by decide +kernel) rfl, xi_X3, by decide +kernel, by decide +kernel, by decide⟩
theorem vX3_type : xVir mX3_type := ⟨xg_r (i := 329) (by decide +kernel) rfl, xg_r (i := 330) (by decide +kernel) rfl⟩
def mX2_append : xMI := (yX2_append, cX2_append, 2, (some .boolean), 0)
theorem fX2_append : xCal mX2_append 1 := ⟨xg_r (i := 335) (by decide +kernel) rfl, xi_X2, by decide +kernel, by decide +kernel, by decide⟩
theorem vX2_append : xVir mX2_append := ⟨xg_r (i := 333) (by decide +kernel) rfl, xg_r (i := 334) (by decide +kernel) rfl⟩
def mX3_clearText : xMI := (yX3_clearText, cX3_clearText, 2, (some .int), 0)
theorem fX3_clearText : xCal mX3_clearText 0 := ⟨xg_r (i := 339) (by decide +kernel) rfl, xi_X3, by decide +kernel, by decide +kernel, by decide⟩
theorem vX3_clearText : xVir mX3_clearText := ⟨xg_r (i := 337) (by decide +kernel) rfl, xg_r (i := 338) (by decide +kernel) rfl⟩
def mX3_addText : xMI := (yX3_addText, cX3_addText, 4, (some .int), 5)
theorem fX3_addText : xCal mX3_addText 0 := ⟨xg_r (i := 343) (by decide +kernel) rfl, xi_X3, by decide +kernel, by decide +kernel, by decide⟩
theorem vX3_addText : xVir mX3_addText := ⟨xg_r (i := 341) (by decide +kernel) rfl, xg_r (i := 342) (by decide +kernel) rfl⟩
def mX2_readRules : xMI := (yX2_readRules, cX2_readRules, 2, (some .int), 3)
theorem fX2_readRules : xCal mX2_readRules 0 := ⟨xg_r (i := 347) (by decide +kernel) rfl, xi_X2, by decide +kernel, by decide +kernel, by decide⟩
theorem vX2_readRules : xVir mX2_readRules := ⟨xg_r (i := 345) (by decide +kernel) rfl, xg_r (i := 346) (by decide +kernel) rfl⟩
def mX2_readEntry : xMI := (yX2_readEntry, cX2_readEntry, 6, (some .boolean), 1)
theorem fX2_readEntry : xCal mX2_readEntry 1 := ⟨xg_r (i := 351) (by decide +kernel) rfl, xi_X2, by decide +kernel, by decide +kernel, by decide⟩
theorem vX2_readEntry : xVir mX2_readEntry := ⟨xg_r (i := 350) (by decide +kernel) rfl, xg_l (i := 13) (by decide +kernel) rfl⟩
def mX2_sign : xMI := (yX2_sign, cX2_sign, 1, (some .int), 0)
theorem fX2_sign : xCal mX2_sign 0 := ⟨xg_r (i := 355) (by decide +kernel) rfl, xi_X2, by decide +kernel, by decide +kernel, by decide⟩
theorem vX2_sign : xVir mX2_sign := ⟨xg_r (i := 354) (by decide +kernel) rfl, xg_l (i := 14) (by decide +kernel) rfl⟩
def mX2_skip : xMI := (yX2_skip, cX2_skip, 2, (some .boolean), 1)
theorem fX2_skip : xCal mX2_skip 1 := ⟨xg_r (i := 359) (by decide +kernel) rfl, xi_X2, by decide +kernel, by decide +kernel, by decide⟩
theorem vX2_skip : xVir mX2_skip := ⟨xg_r (i := 358) (by decide +kernel) rfl, xg_l (i := 15) (by decide +kernel) rfl⟩
def mX2_readRank : xMI := (yX2_readRank, cX2_readRank, 4, (some .boolean), 2)
theorem fX2_readRank : xCal mX2_readRank 1 := ⟨xg_r (i := 363) (by decide +kernel) rfl, xi_X2, by decide +kernel, by decide +kernel, by decide⟩
theorem vX2_readRank : xVir mX2_readRank := ⟨xg_r (i := 362) (by decide +kernel) rfl, xg_l (i := 16) (by decide +kernel) rfl⟩
def mX2_digit : xMI := (yX2_digit, cX2_digit, 2, (some .int), 1)
theorem fX2_digit : xCal mX2_digit 0 := ⟨xg_r (i := 367) (by decide +kernel) rfl, xi_X2, by decide +kernel, by decide +kernel, by decide⟩
theorem vX2_digit : xVir mX2_digit := ⟨xg_r (i := 366) (by decide +kernel) rfl, xg_l (i := 17) (by decide +kernel) rfl⟩
def mX2_readAction : xMI := (yX2_readAction, cX2_readAction, 3, (some .boolean), 2)
theorem fX2_readAction : xCal mX2_readAction 1 := ⟨xg_r (i := 371) (by decide +kernel) rfl, xi_X2, by decide +kernel, by decide +kernel, by decide⟩
theorem vX2_readAction : xVir mX2_readAction := ⟨xg_r (i := 370) (by decide +kernel) rfl, xg_l (i := 18) (by decide +kernel) rfl⟩
def mX3_undo : xMI := (yX3_undo, cX3_undo, 1, (some .int), 3)
theorem fX3_undo : xCal mX3_undo 0 := ⟨xg_r (i := 375) (by decide +kernel) rfl, xi_X3, by decide +kernel, by decide +kernel, by decide⟩
theorem vX3_undo : xVir mX3_undo := ⟨xg_r (i := 373) (by decide +kernel) rfl, xg_r (i := 374) (by decide +kernel) rfl⟩
def mX0_takeLatestInto : xMI := (yX0_takeLatestInto, cX0_takeLatestInto, 2, none, 2)
theorem fX0_takeLatestInto : xCal mX0_takeLatestInto 1 := ⟨xg_r (i := 379) (by decide +kernel) rfl, xi_X0, by decide +kernel, by decide +kernel, by decide⟩
theorem vX0_takeLatestInto : xVir mX0_takeLatestInto := ⟨xg_r (i := 377) (by decide +kernel) rfl, xg_r (i := 378) (by decide +kernel) rfl⟩
def mX3_keep : xMI := (yX3_keep, cX3_keep, 1, (some .int), 3)
theorem fX3_keep : xCal mX3_keep 0 := ⟨xg_r (i := 383) (by decide +kernel) rfl, xi_X3, by decide +kernel, by decide +kernel, by decide⟩
theorem vX3_keep : xVir mX3_keep := ⟨xg_r (i := 381) (by decide +kernel) rfl, xg_r (i := 382) (by decide +kernel) rfl⟩
def mX3_restore : xMI := (yX3_restore, cX3_restore, 1, (some .int), 3)
theorem fX3_restore : xCal mX3_restore 0 := ⟨xg_r (i := 388) (by decide +kernel) rfl, xi_X3, by decide +kernel, by decide +kernel, by decide⟩
theorem vX3_restore : xVir mX3_restore := ⟨xg_r (i := 386) (by decide +kernel) rfl, xg_r (i := 387) (by decide +kernel) rfl⟩
def mX3_ruleIn : xMI := (yX3_ruleIn, cX3_ruleIn, 2, (some .int), 2)
theorem fX3_ruleIn : xCal mX3_ruleIn 1 := ⟨xg_r (i := 392) (by decide +kernel) rfl, xi_X3, by decide +kernel, by decide +kernel, by decide⟩
theorem vX3_ruleIn : xVir mX3_ruleIn := ⟨xg_r (i := 390) (by decide +kernel) rfl, xg_r (i := 391) (by decide +kernel) rfl⟩
def mX3_maskIn : xMI := (yX3_maskIn, cX3_maskIn, 2, (some .int), 2)
theorem fX3_maskIn : xCal mX3_maskIn 1 := ⟨xg_r (i := 396) (by decide +kernel) rfl, xi_X3, by decide +kernel, by decide +kernel, by decide⟩
theorem vX3_maskIn : xVir mX3_maskIn := ⟨xg_r (i := 394) (by decide +kernel) rfl, xg_r (i := 395) (by decide +kernel) rfl⟩
def mX3_valueIn : xMI := (yX3_valueIn, cX3_valueIn, 2, (some .int), 2)
theorem fX3_valueIn : xCal mX3_valueIn 1 := ⟨xg_r (i := 400) (by decide +kernel) rfl, xi_X3, by decide +kernel, by decide +kernel, by decide⟩
theorem vX3_valueIn : xVir mX3_valueIn := ⟨xg_r (i := 398) (by decide +kernel) rfl, xg_r (i := 399) (by decide +kernel) rfl⟩
def mX3_sortIn : xMI := (yX3_sortIn, cX3_sortIn, 3, (some .int), 2)
theorem fX3_sortIn : xCal mX3_sortIn 1 := ⟨xg_r (i := 404) (by decide +kernel) rfl, xi_X3, by decide +kernel, by decide +kernel, by decide⟩
theorem vX3_sortIn : xVir mX3_sortIn := ⟨xg_r (i := 402) (by decide +kernel) rfl, xg_r (i := 403) (by decide +kernel) rfl⟩
def mX3_sortOfMask : xMI := (yX3_sortOfMask, cX3_sortOfMask, 2, (some .int), 0)
theorem fX3_sortOfMask : xCal mX3_sortOfMask 1 := ⟨xg_r (i := 407) (by decide +kernel) rfl, xi_X3, by decide +kernel, by decide +kernel, by decide⟩
theorem sX3_sortOfMask : xSta mX3_sortOfMask := xg_r (i := 406) (by decide +kernel) rfl
def mX3_slotOf : xMI := (yX3_slotOf, cX3_slotOf, 4, (some .int), 2)
theorem fX3_slotOf : xCal mX3_slotOf 2 := ⟨xg_r (i := 411) (by decide +kernel) rfl, xi_X3, by decide +kernel, by decide +kernel, by decide⟩
theorem vX3_slotOf : xVir mX3_slotOf := ⟨xg_r (i := 409) (by decide +kernel) rfl, xg_r (i := 410) (by decide +kernel) rfl⟩
def mX1_slotHolding : xMI := (yX1_slotHolding, cX1_slotHolding, 4, (some .int), 1)
theorem fX1_slotHolding : xCal mX1_slotHolding 2 := ⟨xg_r (i := 415) (by decide +kernel) rfl, xi_X1, by decide +kernel, by decide +kernel, by decide⟩
theorem vX1_slotHolding : xVir mX1_slotHolding := ⟨xg_r (i := 413) (by decide +kernel) rfl, xg_r (i := 414) (by decide +kernel) rfl⟩
def mX3_parts : xMI := (yX3_parts, cX3_parts, 3, (some .int), 2)
theorem fX3_parts : xCal mX3_parts 1 := ⟨xg_r (i := 419) (by decide +kernel) rfl, xi_X3, by decide +kernel, by decide +kernel, by decide⟩
theorem vX3_parts : xVir mX3_parts := ⟨xg_r (i := 417) (by decide +kernel) rfl, xg_r (i := 418) (by decide +kernel) rfl⟩
def mX3_rank : xMI := (yX3_rank, cX3_rank, 2, (some .int), 2)
theorem fX3_rank : xCal mX3_rank 1 := ⟨xg_r (i := 423) (by decide +kernel) rfl, xi_X3, by decide +kernel, by decide +kernel, by decide⟩
theorem vX3_rank : xVir mX3_rank := ⟨xg_r (i := 421) (by decide +kernel) rfl, xg_r (i := 422) (by decide +kernel) rfl⟩
def mX3_action : xMI := (yX3_action, cX3_action, 2, (some .int), 2)
theorem fX3_action : xCal mX3_action 1 := ⟨xg_r (i := 427) (by decide +kernel) rfl, xi_X3, by decide +kernel, by decide +kernel, by decide⟩
theorem vX3_action : xVir mX3_action := ⟨xg_r (i := 425) (by decide +kernel) rfl, xg_r (i := 426) (by decide +kernel) rfl⟩
def mX3_hits : xMI := (yX3_hits, cX3_hits, 2, (some .int), 2)
theorem fX3_hits : xCal mX3_hits 1 := ⟨xg_r (i := 431) (by decide +kernel) rfl, xi_X3, by decide +kernel, by decide +kernel, by decide⟩
theorem vX3_hits : xVir mX3_hits := ⟨xg_r (i := 429) (by decide +kernel) rfl, xg_r (i := 430) (by decide +kernel) rfl⟩
def mX3_find : xMI := (yX3_find, cX3_find, 3, (some .int), 2)
theorem fX3_find : xCal mX3_find 1 := ⟨xg_r (i := 435) (by decide +kernel) rfl, xi_X3, by decide +kernel, by decide +kernel, by decide⟩
theorem vX3_find : xVir mX3_find := ⟨xg_r (i := 433) (by decide +kernel) rfl, xg_r (i := 434) (by decide +kernel) rfl⟩
def mX3_power : xMI := (yX3_power, cX3_power, 2, (some .int), 5)
theorem fX3_power : xCal mX3_power 1 := ⟨xg_r (i := 439) (by decide +kernel) rfl, xi_X3, by decide +kernel, by decide +kernel, by decide⟩
theorem vX3_power : xVir mX3_power := ⟨xg_r (i := 437) (by decide +kernel) rfl, xg_r (i := 438) (by decide +kernel) rfl⟩
def mX3_filterMask : xMI := (yX3_filterMask, cX3_filterMask, 2, (some .int), 3)
theorem fX3_filterMask : xCal mX3_filterMask 1 := ⟨xg_r (i := 444) (by decide +kernel) rfl, xi_X3, by decide +kernel, by decide +kernel, by decide⟩
theorem vX3_filterMask : xVir mX3_filterMask := ⟨xg_r (i := 442) (by decide +kernel) rfl, xg_r (i := 443) (by decide +kernel) rfl⟩
def mX3_isBank : xMI := (yX3_isBank, cX3_isBank, 1, (some .boolean), 0)
theorem fX3_isBank : xCal mX3_isBank 1 := ⟨xg_r (i := 447) (by decide +kernel) rfl, xi_X3, by decide +kernel, by decide +kernel, by decide⟩
theorem sX3_isBank : xSta mX3_isBank := xg_r (i := 446) (by decide +kernel) rfl
def mX3_filterValue : xMI := (yX3_filterValue, cX3_filterValue, 2, (some .int), 4)
theorem fX3_filterValue : xCal mX3_filterValue 1 := ⟨xg_r (i := 452) (by decide +kernel) rfl, xi_X3, by decide +kernel, by decide +kernel, by decide⟩
theorem vX3_filterValue : xVir mX3_filterValue := ⟨xg_r (i := 450) (by decide +kernel) rfl, xg_r (i := 451) (by decide +kernel) rfl⟩
def mX3_hiddenBy : xMI := (yX3_hiddenBy, cX3_hiddenBy, 3, (some .int), 2)
theorem fX3_hiddenBy : xCal mX3_hiddenBy 1 := ⟨xg_r (i := 457) (by decide +kernel) rfl, xi_X3, by decide +kernel, by decide +kernel, by decide⟩
theorem vX3_hiddenBy : xVir mX3_hiddenBy := ⟨xg_r (i := 455) (by decide +kernel) rfl, xg_r (i := 456) (by decide +kernel) rfl⟩
def mX1_slotHiding : xMI := (yX1_slotHiding, cX1_slotHiding, 5, (some .int), 1)
theorem fX1_slotHiding : xCal mX1_slotHiding 1 := ⟨xg_r (i := 462) (by decide +kernel) rfl, xi_X1, by decide +kernel, by decide +kernel, by decide⟩
theorem vX1_slotHiding : xVir mX1_slotHiding := ⟨xg_r (i := 460) (by decide +kernel) rfl, xg_r (i := 461) (by decide +kernel) rfl⟩
def mX3_keysFor : xMI := (yX3_keysFor, cX3_keysFor, 2, (some .int), 3)
theorem fX3_keysFor : xCal mX3_keysFor 1 := ⟨xg_r (i := 466) (by decide +kernel) rfl, xi_X3, by decide +kernel, by decide +kernel, by decide⟩
theorem vX3_keysFor : xVir mX3_keysFor := ⟨xg_r (i := 464) (by decide +kernel) rfl, xg_r (i := 465) (by decide +kernel) rfl⟩
def mX1_keysFinding : xMI := (yX1_keysFinding, cX1_keysFinding, 4, (some .int), 2)
theorem fX1_keysFinding : xCal mX1_keysFinding 1 := ⟨xg_r (i := 470) (by decide +kernel) rfl, xi_X1, by decide +kernel, by decide +kernel, by decide⟩
theorem vX1_keysFinding : xVir mX1_keysFinding := ⟨xg_r (i := 468) (by decide +kernel) rfl, xg_r (i := 469) (by decide +kernel) rfl⟩
def mX3_wouldMove : xMI := (yX3_wouldMove, cX3_wouldMove, 2, (some .int), 4)
theorem fX3_wouldMove : xCal mX3_wouldMove 1 := ⟨xg_r (i := 475) (by decide +kernel) rfl, xi_X3, by decide +kernel, by decide +kernel, by decide⟩
theorem vX3_wouldMove : xVir mX3_wouldMove := ⟨xg_r (i := 473) (by decide +kernel) rfl, xg_r (i := 474) (by decide +kernel) rfl⟩
def mX1_movesFor : xMI := (yX1_movesFor, cX1_movesFor, 4, (some .int), 2)
theorem fX1_movesFor : xCal mX1_movesFor 1 := ⟨xg_r (i := 479) (by decide +kernel) rfl, xi_X1, by decide +kernel, by decide +kernel, by decide⟩
theorem vX1_movesFor : xVir mX1_movesFor := ⟨xg_r (i := 477) (by decide +kernel) rfl, xg_r (i := 478) (by decide +kernel) rfl⟩
def mJ9_min_7cf53 : xMI := (yJ9_min_7cf53, cJ9_min_7cf53, 2, (some .int), 0)
theorem fJ9_min_7cf53 : xCal mJ9_min_7cf53 2 := ⟨xg_r (i := 482) (by decide +kernel) rfl, xi_J9, by decide +kernel, by decide +kernel, by decide⟩
theorem sJ9_min_7cf53 : xSta mJ9_min_7cf53 := xg_r (i := 481) (by decide +kernel) rfl
def mX3_entriesFor : xMI := (yX3_entriesFor, cX3_entriesFor, 3, (some .int), 2)
theorem fX3_entriesFor : xCal mX3_entriesFor 2 := ⟨xg_r (i := 486) (by decide +kernel) rfl, xi_X3, by decide +kernel, by decide +kernel, by decide⟩
theorem vX3_entriesFor : xVir mX3_entriesFor := ⟨xg_r (i := 484) (by decide +kernel) rfl, xg_r (i := 485) (by decide +kernel) rfl⟩
def mX3_total : xMI := (yX3_total, cX3_total, 2, (some .int), 4)
theorem fX3_total : xCal mX3_total 1 := ⟨xg_r (i := 490) (by decide +kernel) rfl, xi_X3, by decide +kernel, by decide +kernel, by decide⟩
theorem vX3_total : xVir mX3_total := ⟨xg_r (i := 488) (by decide +kernel) rfl, xg_r (i := 489) (by decide +kernel) rfl⟩
def mX1_rules : xMI := (yX1_rules, cX1_rules, 3, (some .int), 1)
theorem fX1_rules : xCal mX1_rules 0 := ⟨xg_r (i := 494) (by decide +kernel) rfl, xi_X1, by decide +kernel, by decide +kernel, by decide⟩
theorem vX1_rules : xVir mX1_rules := ⟨xg_r (i := 492) (by decide +kernel) rfl, xg_r (i := 493) (by decide +kernel) rfl⟩
def mX1_entriesNeverFound : xMI := (yX1_entriesNeverFound, cX1_entriesNeverFound, 4, (some .int), 3)
theorem fX1_entriesNeverFound : xCal mX1_entriesNeverFound 0 := ⟨xg_r (i := 498) (by decide +kernel) rfl, xi_X1, by decide +kernel, by decide +kernel, by decide⟩
theorem vX1_entriesNeverFound : xVir mX1_entriesNeverFound := ⟨xg_r (i := 496) (by decide +kernel) rfl, xg_r (i := 497) (by decide +kernel) rfl⟩
def mJ6_bitCount_0f7a4 : xMI := (yJ6_bitCount_0f7a4, cJ6_bitCount_0f7a4, 1, (some .int), 0)
theorem fJ6_bitCount_0f7a4 : xCal mJ6_bitCount_0f7a4 1 := ⟨xg_r (i := 501) (by decide +kernel) rfl, xi_J6, by decide +kernel, by decide +kernel, by decide⟩
theorem sJ6_bitCount_0f7a4 : xSta mJ6_bitCount_0f7a4 := xg_r (i := 500) (by decide +kernel) rfl
def mX4_init : xMI := (yX4_init, cX4_init, 1, none, 0)
theorem fX4_init : xCal mX4_init 0 := ⟨xg_r (i := 509) (by decide +kernel) rfl, xi_X4, by decide +kernel, by decide +kernel, by decide⟩
theorem viX4_init : Cond.instanceMethod yX4_init ∈ gw := xg_r (i := 508) (by decide +kernel) rfl
def mX4_undo : xMI := (yX4_undo, cX4_undo, 1, (some .int), 1)
theorem fX4_undo : xCal mX4_undo 0 := ⟨xg_r (i := 548) (by decide +kernel) rfl, xi_X4, by decide +kernel, by decide +kernel, by decide⟩
theorem vX4_undo : xVir mX4_undo := ⟨xg_r (i := 546) (by decide +kernel) rfl, xg_r (i := 547) (by decide +kernel) rfl⟩
def mX4_copyState : xMI := (yX4_copyState, cX4_copyState, 5, none, 0)
theorem fX4_copyState : xCal mX4_copyState 4 := ⟨xg_r (i := 551) (by decide +kernel) rfl, xi_X4, by decide +kernel, by decide +kernel, by decide⟩
theorem sX4_copyState : xSta mX4_copyState := xg_r (i := 550) (by decide +kernel) rfl
def mX4_keep : xMI := (yX4_keep, cX4_keep, 1, (some .int), 2)
theorem fX4_keep : xCal mX4_keep 0 := ⟨xg_r (i := 555) (by decide +kernel) rfl, xi_X4, by decide +kernel, by decide +kernel, by decide⟩
theorem vX4_keep : xVir mX4_keep := ⟨xg_r (i := 553) (by decide +kernel) rfl, xg_r (i := 554) (by decide +kernel) rfl⟩
def mX4_entries : xMI := (yX4_entries, cX4_entries, 3, (some .int), 1)
theorem fX4_entries : xCal mX4_entries 0 := ⟨xg_r (i := 559) (by decide +kernel) rfl, xi_X4, by decide +kernel, by decide +kernel, by decide⟩
theorem vX4_entries : xVir mX4_entries := ⟨xg_r (i := 558) (by decide +kernel) rfl, xg_l (i := 19) (by decide +kernel) rfl⟩
def mX4_isFree : xMI := (yX4_isFree, cX4_isFree, 2, (some .boolean), 0)
theorem fX4_isFree : xCal mX4_isFree 1 := ⟨xg_r (i := 563) (by decide +kernel) rfl, xi_X4, by decide +kernel, by decide +kernel, by decide⟩
theorem vX4_isFree : xVir mX4_isFree := ⟨xg_r (i := 562) (by decide +kernel) rfl, xg_l (i := 20) (by decide +kernel) rfl⟩
def mX4_restore : xMI := (yX4_restore, cX4_restore, 1, (some .int), 2)
theorem fX4_restore : xCal mX4_restore 0 := ⟨xg_r (i := 567) (by decide +kernel) rfl, xi_X4, by decide +kernel, by decide +kernel, by decide⟩
theorem vX4_restore : xVir mX4_restore := ⟨xg_r (i := 565) (by decide +kernel) rfl, xg_r (i := 566) (by decide +kernel) rfl⟩
def mX4_record : xMI := (yX4_record, cX4_record, 2, none, 1)
theorem fX4_record : xCal mX4_record 0 := ⟨xg_r (i := 571) (by decide +kernel) rfl, xi_X4, by decide +kernel, by decide +kernel, by decide⟩
theorem vX4_record : xVir mX4_record := ⟨xg_r (i := 570) (by decide +kernel) rfl, xg_l (i := 21) (by decide +kernel) rfl⟩
def mX4_addRule : xMI := (yX4_addRule, cX4_addRule, 5, (some .int), 5)
theorem fX4_addRule : xCal mX4_addRule 4 := ⟨xg_r (i := 575) (by decide +kernel) rfl, xi_X4, by decide +kernel, by decide +kernel, by decide⟩
theorem vX4_addRule : xVir mX4_addRule := ⟨xg_r (i := 573) (by decide +kernel) rfl, xg_r (i := 574) (by decide +kernel) rfl⟩
def mX4_isByte : xMI := (yX4_isByte, cX4_isByte, 1, (some .boolean), 1)
theorem fX4_isByte : xCal mX4_isByte 1 := ⟨xg_r (i := 578) (by decide +kernel) rfl, xi_X4, by decide +kernel, by decide +kernel, by decide⟩
theorem sX4_isByte : xSta mX4_isByte := xg_r (i := 577) (by decide +kernel) rfl
def mX4_in : xMI := (yX4_in, cX4_in, 3, (some .boolean), 0)
theorem fX4_in : xCal mX4_in 3 := ⟨xg_r (i := 581) (by decide +kernel) rfl, xi_X4, by decide +kernel, by decide +kernel, by decide⟩
theorem sX4_in : xSta mX4_in := xg_r (i := 580) (by decide +kernel) rfl
def mX4_isRankAndAction : xMI := (yX4_isRankAndAction, cX4_isRankAndAction, 2, (some .boolean), 1)
theorem fX4_isRankAndAction : xCal mX4_isRankAndAction 2 := ⟨xg_r (i := 584) (by decide +kernel) rfl, xi_X4, by decide +kernel, by decide +kernel, by decide⟩
theorem sX4_isRankAndAction : xSta mX4_isRankAndAction := xg_r (i := 583) (by decide +kernel) rfl
def mX4_freeSlots : xMI := (yX4_freeSlots, cX4_freeSlots, 1, (some .int), 2)
theorem fX4_freeSlots : xCal mX4_freeSlots 0 := ⟨xg_r (i := 588) (by decide +kernel) rfl, xi_X4, by decide +kernel, by decide +kernel, by decide⟩
theorem vX4_freeSlots : xVir mX4_freeSlots := ⟨xg_r (i := 587) (by decide +kernel) rfl, xg_l (i := 22) (by decide +kernel) rfl⟩
def mX4_add : xMI := (yX4_add, cX4_add, 6, (some .int), 4)
theorem fX4_add : xCal mX4_add 4 := ⟨xg_r (i := 592) (by decide +kernel) rfl, xi_X4, by decide +kernel, by decide +kernel, by decide⟩
theorem vX4_add : xVir mX4_add := ⟨xg_r (i := 591) (by decide +kernel) rfl, xg_l (i := 23) (by decide +kernel) rfl⟩
def mX4_makeRoom : xMI := (yX4_makeRoom, cX4_makeRoom, 6, (some .int), 3)
theorem fX4_makeRoom : xCal mX4_makeRoom 1 := ⟨xg_r (i := 596) (by decide +kernel) rfl, xi_X4, by decide +kernel, by decide +kernel, by decide⟩
theorem vX4_makeRoom : xVir mX4_makeRoom := ⟨xg_r (i := 595) (by decide +kernel) rfl, xg_l (i := 24) (by decide +kernel) rfl⟩
def mX4_lastUpTo : xMI := (yX4_lastUpTo, cX4_lastUpTo, 4, (some .int), 1)
theorem fX4_lastUpTo : xCal mX4_lastUpTo 1 := ⟨xg_r (i := 600) (by decide +kernel) rfl, xi_X4, by decide +kernel, by decide +kernel, by decide⟩
theorem vX4_lastUpTo : xVir mX4_lastUpTo := ⟨xg_r (i := 599) (by decide +kernel) rfl, xg_l (i := 25) (by decide +kernel) rfl⟩
def mX4_at : xMI := (yX4_at, cX4_at, 3, (some .int), 0)
theorem fX4_at : xCal mX4_at 2 := ⟨xg_r (i := 604) (by decide +kernel) rfl, xi_X4, by decide +kernel, by decide +kernel, by decide⟩
theorem vX4_at : xVir mX4_at := ⟨xg_r (i := 603) (by decide +kernel) rfl, xg_l (i := 26) (by decide +kernel) rfl⟩
def mX4_firstAbove : xMI := (yX4_firstAbove, cX4_firstAbove, 4, (some .int), 1)
theorem fX4_firstAbove : xCal mX4_firstAbove 1 := ⟨xg_r (i := 608) (by decide +kernel) rfl, xi_X4, by decide +kernel, by decide +kernel, by decide⟩
theorem vX4_firstAbove : xVir mX4_firstAbove := ⟨xg_r (i := 607) (by decide +kernel) rfl, xg_l (i := 27) (by decide +kernel) rfl⟩
def mX4_moves : xMI := (yX4_moves, cX4_moves, 6, (some .int), 2)
theorem fX4_moves : xCal mX4_moves 1 := ⟨xg_r (i := 612) (by decide +kernel) rfl, xi_X4, by decide +kernel, by decide +kernel, by decide⟩
theorem vX4_moves : xVir mX4_moves := ⟨xg_r (i := 611) (by decide +kernel) rfl, xg_l (i := 28) (by decide +kernel) rfl⟩
def mX4_freeBehind : xMI := (yX4_freeBehind, cX4_freeBehind, 3, (some .int), 1)
theorem fX4_freeBehind : xCal mX4_freeBehind 1 := ⟨xg_r (i := 616) (by decide +kernel) rfl, xi_X4, by decide +kernel, by decide +kernel, by decide⟩
theorem vX4_freeBehind : xVir mX4_freeBehind := ⟨xg_r (i := 615) (by decide +kernel) rfl, xg_l (i := 29) (by decide +kernel) rfl⟩
def mX4_freeAhead : xMI := (yX4_freeAhead, cX4_freeAhead, 3, (some .int), 1)
theorem fX4_freeAhead : xCal mX4_freeAhead 1 := ⟨xg_r (i := 620) (by decide +kernel) rfl, xi_X4, by decide +kernel, by decide +kernel, by decide⟩
theorem vX4_freeAhead : xVir mX4_freeAhead := ⟨xg_r (i := 619) (by decide +kernel) rfl, xg_l (i := 30) (by decide +kernel) rfl⟩
def mX4_copyEntry : xMI := (yX4_copyEntry, cX4_copyEntry, 4, none, 0)
theorem fX4_copyEntry : xCal mX4_copyEntry 2 := ⟨xg_r (i := 624) (by decide +kernel) rfl, xi_X4, by decide +kernel, by decide +kernel, by decide⟩
theorem vX4_copyEntry : xVir mX4_copyEntry := ⟨xg_r (i := 623) (by decide +kernel) rfl, xg_l (i := 31) (by decide +kernel) rfl⟩
def mX4_put : xMI := (yX4_put, cX4_put, 9, none, 0)
theorem fX4_put : xCal mX4_put 7 := ⟨xg_r (i := 628) (by decide +kernel) rfl, xi_X4, by decide +kernel, by decide +kernel, by decide⟩
theorem vX4_put : xVir mX4_put := ⟨xg_r (i := 627) (by decide +kernel) rfl, xg_l (i := 32) (by decide +kernel) rfl⟩
def mX4_addRange : xMI := (yX4_addRange, cX4_addRange, 8, (some .int), 4)
theorem fX4_addRange : xCal mX4_addRange 4 := ⟨xg_r (i := 632) (by decide +kernel) rfl, xi_X4, by decide +kernel, by decide +kernel, by decide⟩
theorem vX4_addRange : xVir mX4_addRange := ⟨xg_r (i := 630) (by decide +kernel) rfl, xg_r (i := 631) (by decide +kernel) rfl⟩
def mX4_isRange : xMI := (yX4_isRange, cX4_isRange, 2, (some .boolean), 2)
theorem fX4_isRange : xCal mX4_isRange 2 := ⟨xg_r (i := 635) (by decide +kernel) rfl, xi_X4, by decide +kernel, by decide +kernel, by decide⟩
theorem sX4_isRange : xSta mX4_isRange := xg_r (i := 634) (by decide +kernel) rfl
def mX4_blocks : xMI := (yX4_blocks, cX4_blocks, 4, (some .int), 1)
theorem fX4_blocks : xCal mX4_blocks 2 := ⟨xg_r (i := 638) (by decide +kernel) rfl, xi_X4, by decide +kernel, by decide +kernel, by decide⟩
theorem sX4_blocks : xSta mX4_blocks := xg_r (i := 637) (by decide +kernel) rfl
def mX4_block : xMI := (yX4_block, cX4_block, 3, (some .int), 0)
theorem fX4_block : xCal mX4_block 2 := ⟨xg_r (i := 641) (by decide +kernel) rfl, xi_X4, by decide +kernel, by decide +kernel, by decide⟩
theorem sX4_block : xSta mX4_block := xg_r (i := 640) (by decide +kernel) rfl
def mX4_remove : xMI := (yX4_remove, cX4_remove, 4, (some .int), 3)
theorem fX4_remove : xCal mX4_remove 1 := ⟨xg_r (i := 645) (by decide +kernel) rfl, xi_X4, by decide +kernel, by decide +kernel, by decide⟩
theorem vX4_remove : xVir mX4_remove := ⟨xg_r (i := 643) (by decide +kernel) rfl, xg_r (i := 644) (by decide +kernel) rfl⟩
def mX4_isRule : xMI := (yX4_isRule, cX4_isRule, 2, (some .boolean), 2)
theorem fX4_isRule : xCal mX4_isRule 1 := ⟨xg_r (i := 649) (by decide +kernel) rfl, xi_X4, by decide +kernel, by decide +kernel, by decide⟩
theorem vX4_isRule : xVir mX4_isRule := ⟨xg_r (i := 648) (by decide +kernel) rfl, xg_l (i := 33) (by decide +kernel) rfl⟩
def mX4_slotWith : xMI := (yX4_slotWith, cX4_slotWith, 5, (some .int), 1)
theorem fX4_slotWith : xCal mX4_slotWith 2 := ⟨xg_r (i := 653) (by decide +kernel) rfl, xi_X4, by decide +kernel, by decide +kernel, by decide⟩
theorem vX4_slotWith : xVir mX4_slotWith := ⟨xg_r (i := 652) (by decide +kernel) rfl, xg_l (i := 34) (by decide +kernel) rfl⟩
def mX4_clearSlot : xMI := (yX4_clearSlot, cX4_clearSlot, 3, none, 0)
theorem fX4_clearSlot : xCal mX4_clearSlot 1 := ⟨xg_r (i := 657) (by decide +kernel) rfl, xi_X4, by decide +kernel, by decide +kernel, by decide⟩
theorem vX4_clearSlot : xVir mX4_clearSlot := ⟨xg_r (i := 656) (by decide +kernel) rfl, xg_l (i := 35) (by decide +kernel) rfl⟩
def mX4_setPlacing : xMI := (yX4_setPlacing, cX4_setPlacing, 3, (some .int), 2)
theorem fX4_setPlacing : xCal mX4_setPlacing 1 := ⟨xg_r (i := 661) (by decide +kernel) rfl, xi_X4, by decide +kernel, by decide +kernel, by decide⟩
theorem vX4_setPlacing : xVir mX4_setPlacing := ⟨xg_r (i := 659) (by decide +kernel) rfl, xg_r (i := 660) (by decide +kernel) rfl⟩
def mX4_compact : xMI := (yX4_compact, cX4_compact, 1, (some .int), 3)
theorem fX4_compact : xCal mX4_compact 0 := ⟨xg_r (i := 665) (by decide +kernel) rfl, xi_X4, by decide +kernel, by decide +kernel, by decide⟩
theorem vX4_compact : xVir mX4_compact := ⟨xg_r (i := 663) (by decide +kernel) rfl, xg_r (i := 664) (by decide +kernel) rfl⟩
def mX4_rearrange : xMI := (yX4_rearrange, cX4_rearrange, 8, (some .int), 2)
theorem fX4_rearrange : xCal mX4_rearrange 1 := ⟨xg_r (i := 669) (by decide +kernel) rfl, xi_X4, by decide +kernel, by decide +kernel, by decide⟩
theorem vX4_rearrange : xVir mX4_rearrange := ⟨xg_r (i := 668) (by decide +kernel) rfl, xg_l (i := 36) (by decide +kernel) rfl⟩
def mX4_target : xMI := (yX4_target, cX4_target, 3, (some .int), 0)
theorem fX4_target : xCal mX4_target 3 := ⟨xg_r (i := 672) (by decide +kernel) rfl, xi_X4, by decide +kernel, by decide +kernel, by decide⟩
theorem sX4_target : xSta mX4_target := xg_r (i := 671) (by decide +kernel) rfl
def mX4_spread : xMI := (yX4_spread, cX4_spread, 1, (some .int), 3)
theorem fX4_spread : xCal mX4_spread 0 := ⟨xg_r (i := 676) (by decide +kernel) rfl, xi_X4, by decide +kernel, by decide +kernel, by decide⟩
theorem vX4_spread : xVir mX4_spread := ⟨xg_r (i := 674) (by decide +kernel) rfl, xg_r (i := 675) (by decide +kernel) rfl⟩
def mX4_search : xMI := (yX4_search, cX4_search, 3, (some .int), 4)
theorem fX4_search : xCal mX4_search 1 := ⟨xg_r (i := 680) (by decide +kernel) rfl, xi_X4, by decide +kernel, by decide +kernel, by decide⟩
theorem vX4_search : xVir mX4_search := ⟨xg_r (i := 678) (by decide +kernel) rfl, xg_r (i := 679) (by decide +kernel) rfl⟩
def mX4_slotFor : xMI := (yX4_slotFor, cX4_slotFor, 3, (some .int), 2)
theorem fX4_slotFor : xCal mX4_slotFor 1 := ⟨xg_r (i := 684) (by decide +kernel) rfl, xi_X4, by decide +kernel, by decide +kernel, by decide⟩
theorem vX4_slotFor : xVir mX4_slotFor := ⟨xg_r (i := 683) (by decide +kernel) rfl, xg_l (i := 37) (by decide +kernel) rfl⟩
def mX4_matches : xMI := (yX4_matches, cX4_matches, 3, (some .boolean), 1)
theorem fX4_matches : xCal mX4_matches 2 := ⟨xg_r (i := 688) (by decide +kernel) rfl, xi_X4, by decide +kernel, by decide +kernel, by decide⟩
theorem vX4_matches : xVir mX4_matches := ⟨xg_r (i := 687) (by decide +kernel) rfl, xg_l (i := 38) (by decide +kernel) rfl⟩
def mX4_powerOf : xMI := (yX4_powerOf, cX4_powerOf, 4, (some .int), 3)
theorem fX4_powerOf : xCal mX4_powerOf 1 := ⟨xg_r (i := 692) (by decide +kernel) rfl, xi_X4, by decide +kernel, by decide +kernel, by decide⟩
theorem vX4_powerOf : xVir mX4_powerOf := ⟨xg_r (i := 691) (by decide +kernel) rfl, xg_l (i := 39) (by decide +kernel) rfl⟩
def mX4_filter : xMI := (yX4_filter, cX4_filter, 11, (some .int), 2)
theorem fX4_filter : xCal mX4_filter 2 := ⟨xg_r (i := 696) (by decide +kernel) rfl, xi_X4, by decide +kernel, by decide +kernel, by decide⟩
theorem vX4_filter : xVir mX4_filter := ⟨xg_r (i := 695) (by decide +kernel) rfl, xg_l (i := 40) (by decide +kernel) rfl⟩
def mX4_entriesIn : xMI := (yX4_entriesIn, cX4_entriesIn, 4, (some .int), 1)
theorem fX4_entriesIn : xCal mX4_entriesIn 1 := ⟨xg_r (i := 700) (by decide +kernel) rfl, xi_X4, by decide +kernel, by decide +kernel, by decide⟩
theorem vX4_entriesIn : xVir mX4_entriesIn := ⟨xg_r (i := 699) (by decide +kernel) rfl, xg_l (i := 41) (by decide +kernel) rfl⟩
def mX4_find : xMI := (yX4_find, cX4_find, 3, (some .int), 3)
theorem fX4_find : xCal mX4_find 1 := ⟨xg_r (i := 704) (by decide +kernel) rfl, xi_X4, by decide +kernel, by decide +kernel, by decide⟩
theorem vX4_find : xVir mX4_find := ⟨xg_r (i := 702) (by decide +kernel) rfl, xg_r (i := 703) (by decide +kernel) rfl⟩
def mX4_power : xMI := (yX4_power, cX4_power, 2, (some .int), 4)
theorem fX4_power : xCal mX4_power 1 := ⟨xg_r (i := 708) (by decide +kernel) rfl, xi_X4, by decide +kernel, by decide +kernel, by decide⟩
theorem vX4_power : xVir mX4_power := ⟨xg_r (i := 706) (by decide +kernel) rfl, xg_r (i := 707) (by decide +kernel) rfl⟩
def mX4_filterMask : xMI := (yX4_filterMask, cX4_filterMask, 2, (some .int), 3)
theorem fX4_filterMask : xCal mX4_filterMask 1 := ⟨xg_r (i := 712) (by decide +kernel) rfl, xi_X4, by decide +kernel, by decide +kernel, by decide⟩
theorem vX4_filterMask : xVir mX4_filterMask := ⟨xg_r (i := 710) (by decide +kernel) rfl, xg_r (i := 711) (by decide +kernel) rfl⟩
def mX4_filterValue : xMI := (yX4_filterValue, cX4_filterValue, 2, (some .int), 3)
theorem fX4_filterValue : xCal mX4_filterValue 1 := ⟨xg_r (i := 716) (by decide +kernel) rfl, xi_X4, by decide +kernel, by decide +kernel, by decide⟩
theorem vX4_filterValue : xVir mX4_filterValue := ⟨xg_r (i := 714) (by decide +kernel) rfl, xg_r (i := 715) (by decide +kernel) rfl⟩
def mX4_type : xMI := (yX4_type, cX4_type, 2, (some .int), 0)
theorem fX4_type : xCal mX4_type 1 := ⟨xg_r (i := 720) (by decide +kernel) rfl, xi_X4, by decide +kernel, by decide +kernel, by decide⟩
theorem vX4_type : xVir mX4_type := ⟨xg_r (i := 718) (by decide +kernel) rfl, xg_r (i := 719) (by decide +kernel) rfl⟩
def mX4_clearText : xMI := (yX4_clearText, cX4_clearText, 2, (some .int), 0)
theorem fX4_clearText : xCal mX4_clearText 0 := ⟨xg_r (i := 724) (by decide +kernel) rfl, xi_X4, by decide +kernel, by decide +kernel, by decide⟩
theorem vX4_clearText : xVir mX4_clearText := ⟨xg_r (i := 722) (by decide +kernel) rfl, xg_r (i := 723) (by decide +kernel) rfl⟩
def mX4_addText : xMI := (yX4_addText, cX4_addText, 2, (some .int), 5)
theorem fX4_addText : xCal mX4_addText 0 := ⟨xg_r (i := 728) (by decide +kernel) rfl, xi_X4, by decide +kernel, by decide +kernel, by decide⟩
theorem vX4_addText : xVir mX4_addText := ⟨xg_r (i := 726) (by decide +kernel) rfl, xg_r (i := 727) (by decide +kernel) rfl⟩
def mX4_readText : xMI := (yX4_readText, cX4_readText, 2, (some .boolean), 4)
theorem fX4_readText : xCal mX4_readText 0 := ⟨xg_r (i := 732) (by decide +kernel) rfl, xi_X4, by decide +kernel, by decide +kernel, by decide⟩
theorem vX4_readText : xVir mX4_readText := ⟨xg_r (i := 731) (by decide +kernel) rfl, xg_l (i := 42) (by decide +kernel) rfl⟩
def mX4_readRule : xMI := (yX4_readRule, cX4_readRule, 5, (some .boolean), 3)
theorem fX4_readRule : xCal mX4_readRule 0 := ⟨xg_r (i := 736) (by decide +kernel) rfl, xi_X4, by decide +kernel, by decide +kernel, by decide⟩
theorem vX4_readRule : xVir mX4_readRule := ⟨xg_r (i := 735) (by decide +kernel) rfl, xg_l (i := 43) (by decide +kernel) rfl⟩
def mX4_takes : xMI := (yX4_takes, cX4_takes, 3, (some .boolean), 2)
theorem fX4_takes : xCal mX4_takes 1 := ⟨xg_r (i := 740) (by decide +kernel) rfl, xi_X4, by decide +kernel, by decide +kernel, by decide⟩
theorem vX4_takes : xVir mX4_takes := ⟨xg_r (i := 739) (by decide +kernel) rfl, xg_l (i := 44) (by decide +kernel) rfl⟩
def mX4_sees : xMI := (yX4_sees, cX4_sees, 3, (some .boolean), 1)
theorem fX4_sees : xCal mX4_sees 2 := ⟨xg_r (i := 744) (by decide +kernel) rfl, xi_X4, by decide +kernel, by decide +kernel, by decide⟩
theorem vX4_sees : xVir mX4_sees := ⟨xg_r (i := 743) (by decide +kernel) rfl, xg_l (i := 45) (by decide +kernel) rfl⟩
def mX4_number : xMI := (yX4_number, cX4_number, 4, (some .int), 2)
theorem fX4_number : xCal mX4_number 1 := ⟨xg_r (i := 748) (by decide +kernel) rfl, xi_X4, by decide +kernel, by decide +kernel, by decide⟩
theorem vX4_number : xVir mX4_number := ⟨xg_r (i := 747) (by decide +kernel) rfl, xg_l (i := 46) (by decide +kernel) rfl⟩
def mX4_ruleIn : xMI := (yX4_ruleIn, cX4_ruleIn, 3, (some .int), 3)
theorem fX4_ruleIn : xCal mX4_ruleIn 1 := ⟨xg_r (i := 752) (by decide +kernel) rfl, xi_X4, by decide +kernel, by decide +kernel, by decide⟩
theorem vX4_ruleIn : xVir mX4_ruleIn := ⟨xg_r (i := 750) (by decide +kernel) rfl, xg_r (i := 751) (by decide +kernel) rfl⟩
def mX4_inSlot : xMI := (yX4_inSlot, cX4_inSlot, 3, (some .int), 2)
theorem fX4_inSlot : xCal mX4_inSlot 2 := ⟨xg_r (i := 756) (by decide +kernel) rfl, xi_X4, by decide +kernel, by decide +kernel, by decide⟩
theorem vX4_inSlot : xVir mX4_inSlot := ⟨xg_r (i := 755) (by decide +kernel) rfl, xg_l (i := 47) (by decide +kernel) rfl⟩
def mX4_isSlot : xMI := (yX4_isSlot, cX4_isSlot, 1, (some .boolean), 1)
theorem fX4_isSlot : xCal mX4_isSlot 1 := ⟨xg_r (i := 759) (by decide +kernel) rfl, xi_X4, by decide +kernel, by decide +kernel, by decide⟩
theorem sX4_isSlot : xSta mX4_isSlot := xg_r (i := 758) (by decide +kernel) rfl
def mX4_maskIn : xMI := (yX4_maskIn, cX4_maskIn, 2, (some .int), 3)
theorem fX4_maskIn : xCal mX4_maskIn 1 := ⟨xg_r (i := 763) (by decide +kernel) rfl, xi_X4, by decide +kernel, by decide +kernel, by decide⟩
theorem vX4_maskIn : xVir mX4_maskIn := ⟨xg_r (i := 761) (by decide +kernel) rfl, xg_r (i := 762) (by decide +kernel) rfl⟩
def mX4_valueIn : xMI := (yX4_valueIn, cX4_valueIn, 2, (some .int), 3)
theorem fX4_valueIn : xCal mX4_valueIn 1 := ⟨xg_r (i := 767) (by decide +kernel) rfl, xi_X4, by decide +kernel, by decide +kernel, by decide⟩
theorem vX4_valueIn : xVir mX4_valueIn := ⟨xg_r (i := 765) (by decide +kernel) rfl, xg_r (i := 766) (by decide +kernel) rfl⟩
def mX4_sortIn : xMI := (yX4_sortIn, cX4_sortIn, 4, (some .int), 3)
theorem fX4_sortIn : xCal mX4_sortIn 1 := ⟨xg_r (i := 771) (by decide +kernel) rfl, xi_X4, by decide +kernel, by decide +kernel, by decide⟩
theorem vX4_sortIn : xVir mX4_sortIn := ⟨xg_r (i := 769) (by decide +kernel) rfl, xg_r (i := 770) (by decide +kernel) rfl⟩
def mX4_slotOf : xMI := (yX4_slotOf, cX4_slotOf, 4, (some .int), 2)
theorem fX4_slotOf : xCal mX4_slotOf 2 := ⟨xg_r (i := 775) (by decide +kernel) rfl, xi_X4, by decide +kernel, by decide +kernel, by decide⟩
theorem vX4_slotOf : xVir mX4_slotOf := ⟨xg_r (i := 773) (by decide +kernel) rfl, xg_r (i := 774) (by decide +kernel) rfl⟩
def mX4_parts : xMI := (yX4_parts, cX4_parts, 2, (some .int), 3)
theorem fX4_parts : xCal mX4_parts 1 := ⟨xg_r (i := 779) (by decide +kernel) rfl, xi_X4, by decide +kernel, by decide +kernel, by decide⟩
theorem vX4_parts : xVir mX4_parts := ⟨xg_r (i := 777) (by decide +kernel) rfl, xg_r (i := 778) (by decide +kernel) rfl⟩
def mX4_partsOf : xMI := (yX4_partsOf, cX4_partsOf, 4, (some .int), 1)
theorem fX4_partsOf : xCal mX4_partsOf 1 := ⟨xg_r (i := 783) (by decide +kernel) rfl, xi_X4, by decide +kernel, by decide +kernel, by decide⟩
theorem vX4_partsOf : xVir mX4_partsOf := ⟨xg_r (i := 782) (by decide +kernel) rfl, xg_l (i := 48) (by decide +kernel) rfl⟩
def mX4_rank : xMI := (yX4_rank, cX4_rank, 2, (some .int), 4)
theorem fX4_rank : xCal mX4_rank 1 := ⟨xg_r (i := 787) (by decide +kernel) rfl, xi_X4, by decide +kernel, by decide +kernel, by decide⟩
theorem vX4_rank : xVir mX4_rank := ⟨xg_r (i := 785) (by decide +kernel) rfl, xg_r (i := 786) (by decide +kernel) rfl⟩
def mX4_ofRule : xMI := (yX4_ofRule, cX4_ofRule, 3, (some .int), 3)
theorem fX4_ofRule : xCal mX4_ofRule 2 := ⟨xg_r (i := 791) (by decide +kernel) rfl, xi_X4, by decide +kernel, by decide +kernel, by decide⟩
theorem vX4_ofRule : xVir mX4_ofRule := ⟨xg_r (i := 790) (by decide +kernel) rfl, xg_l (i := 49) (by decide +kernel) rfl⟩
def mX4_action : xMI := (yX4_action, cX4_action, 2, (some .int), 4)
theorem fX4_action : xCal mX4_action 1 := ⟨xg_r (i := 795) (by decide +kernel) rfl, xi_X4, by decide +kernel, by decide +kernel, by decide⟩
theorem vX4_action : xVir mX4_action := ⟨xg_r (i := 793) (by decide +kernel) rfl, xg_r (i := 794) (by decide +kernel) rfl⟩
def mX4_hits : xMI := (yX4_hits, cX4_hits, 2, (some .int), 4)
theorem fX4_hits : xCal mX4_hits 1 := ⟨xg_r (i := 799) (by decide +kernel) rfl, xi_X4, by decide +kernel, by decide +kernel, by decide⟩
theorem vX4_hits : xVir mX4_hits := ⟨xg_r (i := 797) (by decide +kernel) rfl, xg_r (i := 798) (by decide +kernel) rfl⟩
def mX4_hiddenBy : xMI := (yX4_hiddenBy, cX4_hiddenBy, 3, (some .int), 3)
theorem fX4_hiddenBy : xCal mX4_hiddenBy 1 := ⟨xg_r (i := 803) (by decide +kernel) rfl, xi_X4, by decide +kernel, by decide +kernel, by decide⟩
theorem vX4_hiddenBy : xVir mX4_hiddenBy := ⟨xg_r (i := 801) (by decide +kernel) rfl, xg_r (i := 802) (by decide +kernel) rfl⟩
def mX4_hides : xMI := (yX4_hides, cX4_hides, 5, (some .boolean), 2)
theorem fX4_hides : xCal mX4_hides 2 := ⟨xg_r (i := 807) (by decide +kernel) rfl, xi_X4, by decide +kernel, by decide +kernel, by decide⟩
theorem vX4_hides : xVir mX4_hides := ⟨xg_r (i := 806) (by decide +kernel) rfl, xg_l (i := 50) (by decide +kernel) rfl⟩
def mX4_keysFor : xMI := (yX4_keysFor, cX4_keysFor, 2, (some .int), 4)
theorem fX4_keysFor : xCal mX4_keysFor 1 := ⟨xg_r (i := 811) (by decide +kernel) rfl, xi_X4, by decide +kernel, by decide +kernel, by decide⟩
theorem vX4_keysFor : xVir mX4_keysFor := ⟨xg_r (i := 809) (by decide +kernel) rfl, xg_r (i := 810) (by decide +kernel) rfl⟩
def mX4_keysWith : xMI := (yX4_keysWith, cX4_keysWith, 4, (some .int), 3)
theorem fX4_keysWith : xCal mX4_keysWith 1 := ⟨xg_r (i := 815) (by decide +kernel) rfl, xi_X4, by decide +kernel, by decide +kernel, by decide⟩
theorem vX4_keysWith : xVir mX4_keysWith := ⟨xg_r (i := 814) (by decide +kernel) rfl, xg_l (i := 51) (by decide +kernel) rfl⟩
def mX4_wouldMove : xMI := (yX4_wouldMove, cX4_wouldMove, 3, (some .int), 3)
theorem fX4_wouldMove : xCal mX4_wouldMove 1 := ⟨xg_r (i := 819) (by decide +kernel) rfl, xi_X4, by decide +kernel, by decide +kernel, by decide⟩
theorem vX4_wouldMove : xVir mX4_wouldMove := ⟨xg_r (i := 817) (by decide +kernel) rfl, xg_r (i := 818) (by decide +kernel) rfl⟩
def mX4_entriesFor : xMI := (yX4_entriesFor, cX4_entriesFor, 3, (some .int), 3)
theorem fX4_entriesFor : xCal mX4_entriesFor 2 := ⟨xg_r (i := 823) (by decide +kernel) rfl, xi_X4, by decide +kernel, by decide +kernel, by decide⟩
theorem vX4_entriesFor : xVir mX4_entriesFor := ⟨xg_r (i := 821) (by decide +kernel) rfl, xg_r (i := 822) (by decide +kernel) rfl⟩
def mX4_total : xMI := (yX4_total, cX4_total, 2, (some .int), 5)
theorem fX4_total : xCal mX4_total 1 := ⟨xg_r (i := 827) (by decide +kernel) rfl, xi_X4, by decide +kernel, by decide +kernel, by decide⟩
theorem vX4_total : xVir mX4_total := ⟨xg_r (i := 825) (by decide +kernel) rfl, xg_r (i := 826) (by decide +kernel) rfl⟩
def mX4_rules : xMI := (yX4_rules, cX4_rules, 3, (some .int), 1)
theorem fX4_rules : xCal mX4_rules 0 := ⟨xg_r (i := 831) (by decide +kernel) rfl, xi_X4, by decide +kernel, by decide +kernel, by decide⟩
theorem vX4_rules : xVir mX4_rules := ⟨xg_r (i := 830) (by decide +kernel) rfl, xg_l (i := 52) (by decide +kernel) rfl⟩
def mX4_entriesWithoutKeys : xMI := (yX4_entriesWithoutKeys, cX4_entriesWithoutKeys, 3, (some .int), 4)
theorem fX4_entriesWithoutKeys : xCal mX4_entriesWithoutKeys 0 := ⟨xg_r (i := 835) (by decide +kernel) rfl, xi_X4, by decide +kernel, by decide +kernel, by decide⟩
theorem vX4_entriesWithoutKeys : xVir mX4_entriesWithoutKeys := ⟨xg_r (i := 834) (by decide +kernel) rfl, xg_l (i := 53) (by decide +kernel) rfl⟩
theorem lkL_9 : Cond.methodLink RL 9 yX3_init ∈ gw := xg_r (i := 10) (by decide +kernel) rfl
theorem lkX3_1 : Cond.methodLink RX3 1 objectInit ∈ gw := xg_r (i := 13) (by decide +kernel) rfl
theorem lkX3_9 : Cond.methodLink RX3 9 yX1_init ∈ gw := xg_r (i := 18) (by decide +kernel) rfl
theorem lkX1_3 : Cond.methodLink RX1 3 objectInit ∈ gw := xg_r (i := 21) (by decide +kernel) rfl
theorem lkX3_21 : Cond.methodLink RX3 21 yX0_init ∈ gw := xg_r (i := 73) (by decide +kernel) rfl
theorem lkX0_1 : Cond.methodLink RX0 1 objectInit ∈ gw := xg_r (i := 76) (by decide +kernel) rfl
theorem lkX0_22 : Cond.methodLink RX0 22 yX1_init ∈ gw := xg_r (i := 79) (by decide +kernel) rfl
theorem lkX3_28 : Cond.methodLinkNest RX3 28 yX2_init "TernaryMatcher" ∈ xnw := xn_r (i := 93) (by decide +kernel) rfl
theorem lkX2_5 : Cond.methodLink RX2 5 objectInit ∈ gw := xg_r (i := 96) (by decide +kernel) rfl
theorem lkL_13 : Cond.methodLink RL 13 yX3_addRule ∈ gw := xg_r (i := 144) (by decide +kernel) rfl
theorem lkX3_37 : Cond.methodLink RX3 37 yX3_isKey ∈ gw := xg_r (i := 148) (by decide +kernel) rfl
theorem lkX3_41 : Cond.methodLink RX3 41 yX3_isRank ∈ gw := xg_r (i := 151) (by decide +kernel) rfl
theorem lkX3_44 : Cond.methodLink RX3 44 yX3_isAction ∈ gw := xg_r (i := 154) (by decide +kernel) rfl
theorem lkX3_47 : Cond.methodLink RX3 47 yX1_freeSlots ∈ gw := xg_r (i := 157) (by decide +kernel) rfl
theorem lkX1_60 : Cond.methodLink RX1 60 yX1_entries ∈ gw := xg_r (i := 161) (by decide +kernel) rfl
theorem lkX1_56 : Cond.methodLink RX1 56 yX1_entriesInBank ∈ gw := xg_r (i := 165) (by decide +kernel) rfl
theorem lkX1_53 : Cond.methodLink RX1 53 yX1_holdsEntry ∈ gw := xg_r (i := 169) (by decide +kernel) rfl
theorem lkX3_51 : Cond.methodLink RX3 51 yX0_record ∈ gw := xg_r (i := 173) (by decide +kernel) rfl
theorem lkX0_23 : Cond.methodLink RX0 23 yJ9_floorMod_7cf53 ∈ gw := xg_r (i := 177) (by decide +kernel) rfl
theorem lkX0_29 : Cond.methodLinkNest RX0 29 yX3_copyState "TernaryMatcher" ∈ xnw := xn_r (i := 180) (by decide +kernel) rfl
theorem lkX3_210 : Cond.methodLink RX3 210 yX1_copyFrom ∈ gw := xg_r (i := 183) (by decide +kernel) rfl
theorem lkX3_55 : Cond.methodLink RX3 55 yX1_addSingle ∈ gw := xg_r (i := 187) (by decide +kernel) rfl
theorem lkX1_64 : Cond.methodLink RX1 64 yX1_openSlot ∈ gw := xg_r (i := 191) (by decide +kernel) rfl
theorem lkX1_75 : Cond.methodLink RX1 75 yX1_lastSlotUpTo ∈ gw := xg_r (i := 195) (by decide +kernel) rfl
theorem lkX1_78 : Cond.methodLink RX1 78 yX1_firstSlotBeyond ∈ gw := xg_r (i := 199) (by decide +kernel) rfl
theorem lkX1_81 : Cond.methodLink RX1 81 yX1_placeBetween ∈ gw := xg_r (i := 203) (by decide +kernel) rfl
theorem lkX1_84 : Cond.methodLink RX1 84 yX1_movesUpFrom ∈ gw := xg_r (i := 207) (by decide +kernel) rfl
theorem lkX1_87 : Cond.methodLink RX1 87 yX1_movesDownFrom ∈ gw := xg_r (i := 211) (by decide +kernel) rfl
theorem lkX1_90 : Cond.methodLink RX1 90 yX1_moveUp ∈ gw := xg_r (i := 215) (by decide +kernel) rfl
theorem lkX1_102 : Cond.methodLink RX1 102 yX1_moveEntry ∈ gw := xg_r (i := 219) (by decide +kernel) rfl
theorem lkX1_49 : Cond.methodLinkNest RX1 49 yX3_isSlot "TernaryMatcher" ∈ xnw := xn_r (i := 223) (by decide +kernel) rfl
theorem lkX1_94 : Cond.methodLink RX1 94 yX1_moveDown ∈ gw := xg_r (i := 226) (by decide +kernel) rfl
theorem lkX1_67 : Cond.methodLink RX1 67 yX1_fill ∈ gw := xg_r (i := 230) (by decide +kernel) rfl
theorem lkL_18 : Cond.methodLink RL 18 yX3_addRange ∈ gw := xg_r (i := 234) (by decide +kernel) rfl
theorem lkX3_59 : Cond.methodLink RX3 59 yX3_isRange ∈ gw := xg_r (i := 238) (by decide +kernel) rfl
theorem lkX3_63 : Cond.methodLink RX3 63 yX3_blocksOf ∈ gw := xg_r (i := 241) (by decide +kernel) rfl
theorem lkX3_207 : Cond.methodLink RX3 207 yX3_blockSize ∈ gw := xg_r (i := 244) (by decide +kernel) rfl
theorem lkX3_67 : Cond.methodLink RX3 67 yX1_addBlocks ∈ gw := xg_r (i := 247) (by decide +kernel) rfl
theorem lkX1_71 : Cond.methodLinkNest RX1 71 yX3_blockSize "TernaryMatcher" ∈ xnw := xn_r (i := 251) (by decide +kernel) rfl
theorem lkL_22 : Cond.methodLink RL 22 yX3_remove ∈ gw := xg_r (i := 252) (by decide +kernel) rfl
theorem lkX3_70 : Cond.methodLink RX3 70 yX1_entriesOf ∈ gw := xg_r (i := 256) (by decide +kernel) rfl
theorem lkX3_74 : Cond.methodLink RX3 74 yX1_dropEntriesOf ∈ gw := xg_r (i := 260) (by decide +kernel) rfl
theorem lkL_27 : Cond.methodLink RL 27 yX3_setPlacing ∈ gw := xg_r (i := 264) (by decide +kernel) rfl
theorem lkL_31 : Cond.methodLink RL 31 yX3_compact ∈ gw := xg_r (i := 268) (by decide +kernel) rfl
theorem lkX3_82 : Cond.methodLink RX3 82 yX3_rearrange ∈ gw := xg_r (i := 272) (by decide +kernel) rfl
theorem lkX3_201 : Cond.methodLink RX3 201 yX1_entriesOutOfShare ∈ gw := xg_r (i := 276) (by decide +kernel) rfl
theorem lkX1_105 : Cond.methodLink RX1 105 yX1_firstSlotOfShare ∈ gw := xg_r (i := 280) (by decide +kernel) rfl
theorem lkX3_204 : Cond.methodLink RX3 204 yX1_moveIntoShares ∈ gw := xg_r (i := 283) (by decide +kernel) rfl
theorem lkX1_108 : Cond.methodLink RX1 108 yX1_moveToFront ∈ gw := xg_r (i := 287) (by decide +kernel) rfl
theorem lkL_36 : Cond.methodLink RL 36 yX3_spread ∈ gw := xg_r (i := 291) (by decide +kernel) rfl
theorem lkX3_85 : Cond.methodLink RX3 85 yX1_entries ∈ gw := xg_r (i := 295) (by decide +kernel) rfl
theorem lkL_40 : Cond.methodLink RL 40 yX3_search ∈ gw := xg_r (i := 296) (by decide +kernel) rfl
theorem lkX3_88 : Cond.methodLink RX3 88 yX1_slotFoundBy ∈ gw := xg_r (i := 300) (by decide +kernel) rfl
theorem lkX3_91 : Cond.methodLink RX3 91 yX1_countSearch ∈ gw := xg_r (i := 304) (by decide +kernel) rfl
theorem lkX1_119 : Cond.methodLink RX1 119 yX1_powerFor ∈ gw := xg_r (i := 308) (by decide +kernel) rfl
theorem lkX1_122 : Cond.methodLink RX1 122 yX1_commonMask ∈ gw := xg_r (i := 312) (by decide +kernel) rfl
theorem lkX1_128 : Cond.methodLink RX1 128 yX1_firstEntryOfBank ∈ gw := xg_r (i := 316) (by decide +kernel) rfl
theorem lkX1_125 : Cond.methodLink RX1 125 yX1_commonValue ∈ gw := xg_r (i := 320) (by decide +kernel) rfl
theorem lkX3_99 : Cond.methodLink RX3 99 yX1_told ∈ gw := xg_r (i := 324) (by decide +kernel) rfl
theorem lkL_44 : Cond.methodLink RL 44 yX3_type ∈ gw := xg_r (i := 328) (by decide +kernel) rfl
theorem lkX3_103 : Cond.methodLink RX3 103 yX2_append ∈ gw := xg_r (i := 332) (by decide +kernel) rfl
theorem lkL_49 : Cond.methodLink RL 49 yX3_clearText ∈ gw := xg_r (i := 336) (by decide +kernel) rfl
theorem lkL_53 : Cond.methodLink RL 53 yX3_addText ∈ gw := xg_r (i := 340) (by decide +kernel) rfl
theorem lkX3_110 : Cond.methodLink RX3 110 yX2_readRules ∈ gw := xg_r (i := 344) (by decide +kernel) rfl
theorem lkX2_37 : Cond.methodLink RX2 37 yX2_readEntry ∈ gw := xg_r (i := 348) (by decide +kernel) rfl
theorem lkX2_51 : Cond.methodLink RX2 51 yX2_sign ∈ gw := xg_r (i := 352) (by decide +kernel) rfl
theorem lkX2_41 : Cond.methodLink RX2 41 yX2_skip ∈ gw := xg_r (i := 356) (by decide +kernel) rfl
theorem lkX2_45 : Cond.methodLink RX2 45 yX2_readRank ∈ gw := xg_r (i := 360) (by decide +kernel) rfl
theorem lkX2_55 : Cond.methodLink RX2 55 yX2_digit ∈ gw := xg_r (i := 364) (by decide +kernel) rfl
theorem lkX2_48 : Cond.methodLink RX2 48 yX2_readAction ∈ gw := xg_r (i := 368) (by decide +kernel) rfl
theorem lkL_57 : Cond.methodLink RL 57 yX3_undo ∈ gw := xg_r (i := 372) (by decide +kernel) rfl
theorem lkX3_131 : Cond.methodLink RX3 131 yX0_takeLatestInto ∈ gw := xg_r (i := 376) (by decide +kernel) rfl
theorem lkL_61 : Cond.methodLink RL 61 yX3_keep ∈ gw := xg_r (i := 380) (by decide +kernel) rfl
theorem lkX3_134 : Cond.methodLink RX3 134 yX3_copyState ∈ gw := xg_r (i := 384) (by decide +kernel) rfl
theorem lkL_65 : Cond.methodLink RL 65 yX3_restore ∈ gw := xg_r (i := 385) (by decide +kernel) rfl
theorem lkL_69 : Cond.methodLink RL 69 yX3_ruleIn ∈ gw := xg_r (i := 389) (by decide +kernel) rfl
theorem lkL_73 : Cond.methodLink RL 73 yX3_maskIn ∈ gw := xg_r (i := 393) (by decide +kernel) rfl
theorem lkL_77 : Cond.methodLink RL 77 yX3_valueIn ∈ gw := xg_r (i := 397) (by decide +kernel) rfl
theorem lkL_81 : Cond.methodLink RL 81 yX3_sortIn ∈ gw := xg_r (i := 401) (by decide +kernel) rfl
theorem lkX3_147 : Cond.methodLink RX3 147 yX3_sortOfMask ∈ gw := xg_r (i := 405) (by decide +kernel) rfl
theorem lkL_85 : Cond.methodLink RL 85 yX3_slotOf ∈ gw := xg_r (i := 408) (by decide +kernel) rfl
theorem lkX3_150 : Cond.methodLink RX3 150 yX1_slotHolding ∈ gw := xg_r (i := 412) (by decide +kernel) rfl
theorem lkL_90 : Cond.methodLink RL 90 yX3_parts ∈ gw := xg_r (i := 416) (by decide +kernel) rfl
theorem lkL_94 : Cond.methodLink RL 94 yX3_rank ∈ gw := xg_r (i := 420) (by decide +kernel) rfl
theorem lkL_98 : Cond.methodLink RL 98 yX3_action ∈ gw := xg_r (i := 424) (by decide +kernel) rfl
theorem lkL_102 : Cond.methodLink RL 102 yX3_hits ∈ gw := xg_r (i := 428) (by decide +kernel) rfl
theorem lkL_106 : Cond.methodLink RL 106 yX3_find ∈ gw := xg_r (i := 432) (by decide +kernel) rfl
theorem lkL_110 : Cond.methodLink RL 110 yX3_power ∈ gw := xg_r (i := 436) (by decide +kernel) rfl
theorem lkX3_159 : Cond.methodLink RX3 159 yX1_powerFor ∈ gw := xg_r (i := 440) (by decide +kernel) rfl
theorem lkL_114 : Cond.methodLink RL 114 yX3_filterMask ∈ gw := xg_r (i := 441) (by decide +kernel) rfl
theorem lkX3_162 : Cond.methodLink RX3 162 yX3_isBank ∈ gw := xg_r (i := 445) (by decide +kernel) rfl
theorem lkX3_165 : Cond.methodLink RX3 165 yX1_commonMask ∈ gw := xg_r (i := 448) (by decide +kernel) rfl
theorem lkL_118 : Cond.methodLink RL 118 yX3_filterValue ∈ gw := xg_r (i := 449) (by decide +kernel) rfl
theorem lkX3_168 : Cond.methodLink RX3 168 yX1_commonValue ∈ gw := xg_r (i := 453) (by decide +kernel) rfl
theorem lkL_122 : Cond.methodLink RL 122 yX3_hiddenBy ∈ gw := xg_r (i := 454) (by decide +kernel) rfl
theorem lkX3_171 : Cond.methodLink RX3 171 yX3_isSlot ∈ gw := xg_r (i := 458) (by decide +kernel) rfl
theorem lkX3_174 : Cond.methodLink RX3 174 yX1_slotHiding ∈ gw := xg_r (i := 459) (by decide +kernel) rfl
theorem lkL_126 : Cond.methodLink RL 126 yX3_keysFor ∈ gw := xg_r (i := 463) (by decide +kernel) rfl
theorem lkX3_177 : Cond.methodLink RX3 177 yX1_keysFinding ∈ gw := xg_r (i := 467) (by decide +kernel) rfl
theorem lkX1_111 : Cond.methodLink RX1 111 yX1_slotFoundBy ∈ gw := xg_r (i := 471) (by decide +kernel) rfl
theorem lkL_130 : Cond.methodLink RL 130 yX3_wouldMove ∈ gw := xg_r (i := 472) (by decide +kernel) rfl
theorem lkX3_180 : Cond.methodLink RX3 180 yX1_movesFor ∈ gw := xg_r (i := 476) (by decide +kernel) rfl
theorem lkX1_97 : Cond.methodLink RX1 97 yJ9_min_7cf53 ∈ gw := xg_r (i := 480) (by decide +kernel) rfl
theorem lkL_134 : Cond.methodLink RL 134 yX3_entriesFor ∈ gw := xg_r (i := 483) (by decide +kernel) rfl
theorem lkL_138 : Cond.methodLink RL 138 yX3_total ∈ gw := xg_r (i := 487) (by decide +kernel) rfl
theorem lkX3_183 : Cond.methodLink RX3 183 yX1_rules ∈ gw := xg_r (i := 491) (by decide +kernel) rfl
theorem lkX3_198 : Cond.methodLink RX3 198 yX1_entriesNeverFound ∈ gw := xg_r (i := 495) (by decide +kernel) rfl
theorem lkX1_114 : Cond.methodLink RX1 114 yJ6_bitCount_0f7a4 ∈ gw := xg_r (i := 499) (by decide +kernel) rfl
theorem lkL_12 : Cond.methodLink RL 12 yX4_init ∈ gw := xg_r (i := 507) (by decide +kernel) rfl
theorem lkX4_1 : Cond.methodLink RX4 1 objectInit ∈ gw := xg_r (i := 510) (by decide +kernel) rfl
theorem lkL_60 : Cond.methodLink RL 60 yX4_undo ∈ gw := xg_r (i := 545) (by decide +kernel) rfl
theorem lkX4_36 : Cond.methodLink RX4 36 yX4_copyState ∈ gw := xg_r (i := 549) (by decide +kernel) rfl
theorem lkL_64 : Cond.methodLink RL 64 yX4_keep ∈ gw := xg_r (i := 552) (by decide +kernel) rfl
theorem lkX4_44 : Cond.methodLink RX4 44 yX4_entries ∈ gw := xg_r (i := 556) (by decide +kernel) rfl
theorem lkX4_51 : Cond.methodLink RX4 51 yX4_isFree ∈ gw := xg_r (i := 560) (by decide +kernel) rfl
theorem lkL_68 : Cond.methodLink RL 68 yX4_restore ∈ gw := xg_r (i := 564) (by decide +kernel) rfl
theorem lkX4_48 : Cond.methodLink RX4 48 yX4_record ∈ gw := xg_r (i := 568) (by decide +kernel) rfl
theorem lkL_17 : Cond.methodLink RL 17 yX4_addRule ∈ gw := xg_r (i := 572) (by decide +kernel) rfl
theorem lkX4_79 : Cond.methodLink RX4 79 yX4_isByte ∈ gw := xg_r (i := 576) (by decide +kernel) rfl
theorem lkX4_28 : Cond.methodLink RX4 28 yX4_in ∈ gw := xg_r (i := 579) (by decide +kernel) rfl
theorem lkX4_89 : Cond.methodLink RX4 89 yX4_isRankAndAction ∈ gw := xg_r (i := 582) (by decide +kernel) rfl
theorem lkX4_93 : Cond.methodLink RX4 93 yX4_freeSlots ∈ gw := xg_r (i := 585) (by decide +kernel) rfl
theorem lkX4_96 : Cond.methodLink RX4 96 yX4_add ∈ gw := xg_r (i := 589) (by decide +kernel) rfl
theorem lkX4_82 : Cond.methodLink RX4 82 yX4_makeRoom ∈ gw := xg_r (i := 593) (by decide +kernel) rfl
theorem lkX4_59 : Cond.methodLink RX4 59 yX4_lastUpTo ∈ gw := xg_r (i := 597) (by decide +kernel) rfl
theorem lkX4_55 : Cond.methodLink RX4 55 yX4_at ∈ gw := xg_r (i := 601) (by decide +kernel) rfl
theorem lkX4_63 : Cond.methodLink RX4 63 yX4_firstAbove ∈ gw := xg_r (i := 605) (by decide +kernel) rfl
theorem lkX4_72 : Cond.methodLink RX4 72 yX4_moves ∈ gw := xg_r (i := 609) (by decide +kernel) rfl
theorem lkX4_66 : Cond.methodLink RX4 66 yX4_freeBehind ∈ gw := xg_r (i := 613) (by decide +kernel) rfl
theorem lkX4_69 : Cond.methodLink RX4 69 yX4_freeAhead ∈ gw := xg_r (i := 617) (by decide +kernel) rfl
theorem lkX4_75 : Cond.methodLink RX4 75 yX4_copyEntry ∈ gw := xg_r (i := 621) (by decide +kernel) rfl
theorem lkX4_85 : Cond.methodLink RX4 85 yX4_put ∈ gw := xg_r (i := 625) (by decide +kernel) rfl
theorem lkL_21 : Cond.methodLink RL 21 yX4_addRange ∈ gw := xg_r (i := 629) (by decide +kernel) rfl
theorem lkX4_103 : Cond.methodLink RX4 103 yX4_isRange ∈ gw := xg_r (i := 633) (by decide +kernel) rfl
theorem lkX4_106 : Cond.methodLink RX4 106 yX4_blocks ∈ gw := xg_r (i := 636) (by decide +kernel) rfl
theorem lkX4_100 : Cond.methodLink RX4 100 yX4_block ∈ gw := xg_r (i := 639) (by decide +kernel) rfl
theorem lkL_26 : Cond.methodLink RL 26 yX4_remove ∈ gw := xg_r (i := 642) (by decide +kernel) rfl
theorem lkX4_112 : Cond.methodLink RX4 112 yX4_isRule ∈ gw := xg_r (i := 646) (by decide +kernel) rfl
theorem lkX4_109 : Cond.methodLink RX4 109 yX4_slotWith ∈ gw := xg_r (i := 650) (by decide +kernel) rfl
theorem lkX4_115 : Cond.methodLink RX4 115 yX4_clearSlot ∈ gw := xg_r (i := 654) (by decide +kernel) rfl
theorem lkL_30 : Cond.methodLink RL 30 yX4_setPlacing ∈ gw := xg_r (i := 658) (by decide +kernel) rfl
theorem lkL_35 : Cond.methodLink RL 35 yX4_compact ∈ gw := xg_r (i := 662) (by decide +kernel) rfl
theorem lkX4_123 : Cond.methodLink RX4 123 yX4_rearrange ∈ gw := xg_r (i := 666) (by decide +kernel) rfl
theorem lkX4_119 : Cond.methodLink RX4 119 yX4_target ∈ gw := xg_r (i := 670) (by decide +kernel) rfl
theorem lkL_39 : Cond.methodLink RL 39 yX4_spread ∈ gw := xg_r (i := 673) (by decide +kernel) rfl
theorem lkL_43 : Cond.methodLink RL 43 yX4_search ∈ gw := xg_r (i := 677) (by decide +kernel) rfl
theorem lkX4_137 : Cond.methodLink RX4 137 yX4_slotFor ∈ gw := xg_r (i := 681) (by decide +kernel) rfl
theorem lkX4_127 : Cond.methodLink RX4 127 yX4_matches ∈ gw := xg_r (i := 685) (by decide +kernel) rfl
theorem lkX4_140 : Cond.methodLink RX4 140 yX4_powerOf ∈ gw := xg_r (i := 689) (by decide +kernel) rfl
theorem lkX4_133 : Cond.methodLink RX4 133 yX4_filter ∈ gw := xg_r (i := 693) (by decide +kernel) rfl
theorem lkX4_130 : Cond.methodLink RX4 130 yX4_entriesIn ∈ gw := xg_r (i := 697) (by decide +kernel) rfl
theorem lkL_109 : Cond.methodLink RL 109 yX4_find ∈ gw := xg_r (i := 701) (by decide +kernel) rfl
theorem lkL_113 : Cond.methodLink RL 113 yX4_power ∈ gw := xg_r (i := 705) (by decide +kernel) rfl
theorem lkL_117 : Cond.methodLink RL 117 yX4_filterMask ∈ gw := xg_r (i := 709) (by decide +kernel) rfl
theorem lkL_121 : Cond.methodLink RL 121 yX4_filterValue ∈ gw := xg_r (i := 713) (by decide +kernel) rfl
theorem lkL_48 : Cond.methodLink RL 48 yX4_type ∈ gw := xg_r (i := 717) (by decide +kernel) rfl
theorem lkL_52 : Cond.methodLink RL 52 yX4_clearText ∈ gw := xg_r (i := 721) (by decide +kernel) rfl
theorem lkL_56 : Cond.methodLink RL 56 yX4_addText ∈ gw := xg_r (i := 725) (by decide +kernel) rfl
theorem lkX4_165 : Cond.methodLink RX4 165 yX4_readText ∈ gw := xg_r (i := 729) (by decide +kernel) rfl
theorem lkX4_161 : Cond.methodLink RX4 161 yX4_readRule ∈ gw := xg_r (i := 733) (by decide +kernel) rfl
theorem lkX4_152 : Cond.methodLink RX4 152 yX4_takes ∈ gw := xg_r (i := 737) (by decide +kernel) rfl
theorem lkX4_149 : Cond.methodLink RX4 149 yX4_sees ∈ gw := xg_r (i := 741) (by decide +kernel) rfl
theorem lkX4_155 : Cond.methodLink RX4 155 yX4_number ∈ gw := xg_r (i := 745) (by decide +kernel) rfl
theorem lkL_72 : Cond.methodLink RL 72 yX4_ruleIn ∈ gw := xg_r (i := 749) (by decide +kernel) rfl
theorem lkX4_171 : Cond.methodLink RX4 171 yX4_inSlot ∈ gw := xg_r (i := 753) (by decide +kernel) rfl
theorem lkX4_168 : Cond.methodLink RX4 168 yX4_isSlot ∈ gw := xg_r (i := 757) (by decide +kernel) rfl
theorem lkL_76 : Cond.methodLink RL 76 yX4_maskIn ∈ gw := xg_r (i := 760) (by decide +kernel) rfl
theorem lkL_80 : Cond.methodLink RL 80 yX4_valueIn ∈ gw := xg_r (i := 764) (by decide +kernel) rfl
theorem lkL_84 : Cond.methodLink RL 84 yX4_sortIn ∈ gw := xg_r (i := 768) (by decide +kernel) rfl
theorem lkL_89 : Cond.methodLink RL 89 yX4_slotOf ∈ gw := xg_r (i := 772) (by decide +kernel) rfl
theorem lkL_93 : Cond.methodLink RL 93 yX4_parts ∈ gw := xg_r (i := 776) (by decide +kernel) rfl
theorem lkX4_174 : Cond.methodLink RX4 174 yX4_partsOf ∈ gw := xg_r (i := 780) (by decide +kernel) rfl
theorem lkL_97 : Cond.methodLink RL 97 yX4_rank ∈ gw := xg_r (i := 784) (by decide +kernel) rfl
theorem lkX4_177 : Cond.methodLink RX4 177 yX4_ofRule ∈ gw := xg_r (i := 788) (by decide +kernel) rfl
theorem lkL_101 : Cond.methodLink RL 101 yX4_action ∈ gw := xg_r (i := 792) (by decide +kernel) rfl
theorem lkL_105 : Cond.methodLink RL 105 yX4_hits ∈ gw := xg_r (i := 796) (by decide +kernel) rfl
theorem lkL_125 : Cond.methodLink RL 125 yX4_hiddenBy ∈ gw := xg_r (i := 800) (by decide +kernel) rfl
theorem lkX4_180 : Cond.methodLink RX4 180 yX4_hides ∈ gw := xg_r (i := 804) (by decide +kernel) rfl
theorem lkL_129 : Cond.methodLink RL 129 yX4_keysFor ∈ gw := xg_r (i := 808) (by decide +kernel) rfl
theorem lkX4_183 : Cond.methodLink RX4 183 yX4_keysWith ∈ gw := xg_r (i := 812) (by decide +kernel) rfl
theorem lkL_133 : Cond.methodLink RL 133 yX4_wouldMove ∈ gw := xg_r (i := 816) (by decide +kernel) rfl
theorem lkL_137 : Cond.methodLink RL 137 yX4_entriesFor ∈ gw := xg_r (i := 820) (by decide +kernel) rfl
theorem lkL_141 : Cond.methodLink RL 141 yX4_total ∈ gw := xg_r (i := 824) (by decide +kernel) rfl
theorem lkX4_186 : Cond.methodLink RX4 186 yX4_rules ∈ gw := xg_r (i := 828) (by decide +kernel) rfl
theorem lkX4_189 : Cond.methodLink RX4 189 yX4_entriesWithoutKeys ∈ gw := xg_r (i := 832) (by decide +kernel) rfl
theorem flX1_9 : Cond.fieldLink RX1 9 RX1 "ruleAt" "[I" ∈ gw := xg_r (i := 22) (by decide +kernel) rfl
theorem flX3_138 : Cond.fieldLinkNest RX3 138 RX1 "ruleAt" "[I" "TernaryMatcher" ∈ xnw := xn_r (i := 23) (by decide +kernel) rfl
theorem flX1_15 : Cond.fieldLink RX1 15 RX1 "partAt" "[I" ∈ gw := xg_r (i := 24) (by decide +kernel) rfl
theorem flX1_18 : Cond.fieldLink RX1 18 RX1 "maskAt" "[I" ∈ gw := xg_r (i := 25) (by decide +kernel) rfl
theorem flX3_141 : Cond.fieldLinkNest RX3 141 RX1 "maskAt" "[I" "TernaryMatcher" ∈ xnw := xn_r (i := 26) (by decide +kernel) rfl
theorem flX1_21 : Cond.fieldLink RX1 21 RX1 "valueAt" "[I" ∈ gw := xg_r (i := 27) (by decide +kernel) rfl
theorem flX3_144 : Cond.fieldLinkNest RX3 144 RX1 "valueAt" "[I" "TernaryMatcher" ∈ xnw := xn_r (i := 28) (by decide +kernel) rfl
theorem flX1_24 : Cond.fieldLink RX1 24 RX1 "rankAt" "[I" ∈ gw := xg_r (i := 29) (by decide +kernel) rfl
theorem flX3_153 : Cond.fieldLinkNest RX3 153 RX1 "rankAt" "[I" "TernaryMatcher" ∈ xnw := xn_r (i := 30) (by decide +kernel) rfl
theorem flX1_27 : Cond.fieldLink RX1 27 RX1 "actionAt" "[I" ∈ gw := xg_r (i := 31) (by decide +kernel) rfl
theorem flX3_95 : Cond.fieldLinkNest RX3 95 RX1 "actionAt" "[I" "TernaryMatcher" ∈ xnw := xn_r (i := 32) (by decide +kernel) rfl
theorem flX1_30 : Cond.fieldLink RX1 30 RX1 "hitsAt" "[I" ∈ gw := xg_r (i := 33) (by decide +kernel) rfl
theorem flX3_156 : Cond.fieldLinkNest RX3 156 RX1 "hitsAt" "[I" "TernaryMatcher" ∈ xnw := xn_r (i := 34) (by decide +kernel) rfl
theorem flX1_33 : Cond.fieldLink RX1 33 RX1 "placing" "I" ∈ gw := xg_r (i := 35) (by decide +kernel) rfl
theorem flX3_78 : Cond.fieldLinkNest RX3 78 RX1 "placing" "I" "TernaryMatcher" ∈ xnw := xn_r (i := 36) (by decide +kernel) rfl
theorem flX1_37 : Cond.fieldLink RX1 37 RX1 "rulesAdded" "I" ∈ gw := xg_r (i := 37) (by decide +kernel) rfl
theorem flX3_186 : Cond.fieldLinkNest RX3 186 RX1 "rulesAdded" "I" "TernaryMatcher" ∈ xnw := xn_r (i := 38) (by decide +kernel) rfl
theorem flX1_40 : Cond.fieldLink RX1 40 RX1 "entriesMoved" "I" ∈ gw := xg_r (i := 39) (by decide +kernel) rfl
theorem flX3_189 : Cond.fieldLinkNest RX3 189 RX1 "entriesMoved" "I" "TernaryMatcher" ∈ xnw := xn_r (i := 40) (by decide +kernel) rfl
theorem flX1_43 : Cond.fieldLink RX1 43 RX1 "searches" "I" ∈ gw := xg_r (i := 41) (by decide +kernel) rfl
theorem flX3_192 : Cond.fieldLinkNest RX3 192 RX1 "searches" "I" "TernaryMatcher" ∈ xnw := xn_r (i := 42) (by decide +kernel) rfl
theorem flX1_46 : Cond.fieldLink RX1 46 RX1 "powers" "I" ∈ gw := xg_r (i := 43) (by decide +kernel) rfl
theorem flX3_195 : Cond.fieldLinkNest RX3 195 RX1 "powers" "I" "TernaryMatcher" ∈ xnw := xn_r (i := 44) (by decide +kernel) rfl
theorem flX0_11 : Cond.fieldLink RX0 11 RX0 "states" "[LTernaryMatcher$Memory;" ∈ gw := xg_r (i := 80) (by decide +kernel) rfl
theorem flX0_15 : Cond.fieldLink RX0 15 RX0 "oldest" "I" ∈ gw := xg_r (i := 81) (by decide +kernel) rfl
theorem flX0_19 : Cond.fieldLink RX0 19 RX0 "count" "I" ∈ gw := xg_r (i := 82) (by decide +kernel) rfl
theorem flX3_128 : Cond.fieldLinkNest RX3 128 RX0 "count" "I" "TernaryMatcher" ∈ xnw := xn_r (i := 83) (by decide +kernel) rfl
theorem flX2_11 : Cond.fieldLink RX2 11 RX2 "signs" "[I" ∈ gw := xg_r (i := 97) (by decide +kernel) rfl
theorem flX2_15 : Cond.fieldLink RX2 15 RX2 "length" "I" ∈ gw := xg_r (i := 98) (by decide +kernel) rfl
theorem flX3_107 : Cond.fieldLinkNest RX3 107 RX2 "length" "I" "TernaryMatcher" ∈ xnw := xn_r (i := 99) (by decide +kernel) rfl
theorem flX2_19 : Cond.fieldLink RX2 19 RX2 "at" "I" ∈ gw := xg_r (i := 100) (by decide +kernel) rfl
theorem flX2_22 : Cond.fieldLink RX2 22 RX2 "rulesRead" "I" ∈ gw := xg_r (i := 101) (by decide +kernel) rfl
theorem flX3_113 : Cond.fieldLinkNest RX3 113 RX2 "rulesRead" "I" "TernaryMatcher" ∈ xnw := xn_r (i := 102) (by decide +kernel) rfl
theorem flX2_25 : Cond.fieldLink RX2 25 RX2 "masks" "[I" ∈ gw := xg_r (i := 103) (by decide +kernel) rfl
theorem flX3_119 : Cond.fieldLinkNest RX3 119 RX2 "masks" "[I" "TernaryMatcher" ∈ xnw := xn_r (i := 104) (by decide +kernel) rfl
theorem flX2_28 : Cond.fieldLink RX2 28 RX2 "values" "[I" ∈ gw := xg_r (i := 105) (by decide +kernel) rfl
theorem flX3_116 : Cond.fieldLinkNest RX3 116 RX2 "values" "[I" "TernaryMatcher" ∈ xnw := xn_r (i := 106) (by decide +kernel) rfl
theorem flX2_31 : Cond.fieldLink RX2 31 RX2 "ranks" "[I" ∈ gw := xg_r (i := 107) (by decide +kernel) rfl
theorem flX3_122 : Cond.fieldLinkNest RX3 122 RX2 "ranks" "[I" "TernaryMatcher" ∈ xnw := xn_r (i := 108) (by decide +kernel) rfl
theorem flX2_34 : Cond.fieldLink RX2 34 RX2 "actions" "[I" ∈ gw := xg_r (i := 109) (by decide +kernel) rfl
theorem flX3_125 : Cond.fieldLinkNest RX3 125 RX2 "actions" "[I" "TernaryMatcher" ∈ xnw := xn_r (i := 110) (by decide +kernel) rfl
theorem flX3_10 : Cond.fieldLink RX3 10 RX3 "memory" "LTernaryMatcher$Memory;" ∈ gw := xg_r (i := 128) (by decide +kernel) rfl
theorem flX3_16 : Cond.fieldLink RX3 16 RX3 "snapshot" "LTernaryMatcher$Memory;" ∈ gw := xg_r (i := 129) (by decide +kernel) rfl
theorem flX3_22 : Cond.fieldLink RX3 22 RX3 "history" "LTernaryMatcher$History;" ∈ gw := xg_r (i := 130) (by decide +kernel) rfl
theorem flX3_29 : Cond.fieldLink RX3 29 RX3 "text" "LTernaryMatcher$RuleText;" ∈ gw := xg_r (i := 131) (by decide +kernel) rfl
theorem flX3_33 : Cond.fieldLink RX3 33 RX3 "snapshotTaken" "Z" ∈ gw := xg_r (i := 132) (by decide +kernel) rfl
theorem flX4_7 : Cond.fieldLink RX4 7 RX4 "now" "[I" ∈ gw := xg_r (i := 511) (by decide +kernel) rfl
theorem flX4_13 : Cond.fieldLink RX4 13 RX4 "spare" "[I" ∈ gw := xg_r (i := 512) (by decide +kernel) rfl
theorem flX4_16 : Cond.fieldLink RX4 16 RX4 "past" "[I" ∈ gw := xg_r (i := 513) (by decide +kernel) rfl
theorem flX4_32 : Cond.fieldLink RX4 32 RX4 "states" "I" ∈ gw := xg_r (i := 514) (by decide +kernel) rfl
theorem flX4_19 : Cond.fieldLink RX4 19 RX4 "kept" "[I" ∈ gw := xg_r (i := 515) (by decide +kernel) rfl
theorem flX4_40 : Cond.fieldLink RX4 40 RX4 "isKept" "Z" ∈ gw := xg_r (i := 516) (by decide +kernel) rfl
theorem flX4_22 : Cond.fieldLink RX4 22 RX4 "text" "[I" ∈ gw := xg_r (i := 517) (by decide +kernel) rfl
theorem flX4_143 : Cond.fieldLink RX4 143 RX4 "length" "I" ∈ gw := xg_r (i := 518) (by decide +kernel) rfl
theorem flX4_25 : Cond.fieldLink RX4 25 RX4 "told" "[I" ∈ gw := xg_r (i := 519) (by decide +kernel) rfl
theorem flX4_158 : Cond.fieldLink RX4 158 RX4 "toldMany" "I" ∈ gw := xg_r (i := 520) (by decide +kernel) rfl
theorem flX4_146 : Cond.fieldLink RX4 146 RX4 "spot" "I" ∈ gw := xg_r (i := 521) (by decide +kernel) rfl
theorem iwX0 : ∀ w ∈ u_ws RX0 TX0 3, w ∈ gw := List.forall_mem_cons.mpr ⟨xg_r (i := 84) (by decide +kernel) rfl, List.forall_mem_cons.mpr ⟨xg_r (i := 86) (by decide +kernel) rfl, List.forall_mem_cons.mpr ⟨xg_r (i := 88) (by decide +kernel) rfl, fun _ h => absurd h List.not_mem_nil⟩⟩⟩
theorem iwX1 : ∀ w ∈ u_ws RX1 TX1 12, w ∈ gw := List.forall_mem_cons.mpr ⟨xg_r (i := 45) (by decide +kernel) rfl, List.forall_mem_cons.mpr ⟨xg_r (i := 47) (by decide +kernel) rfl, List.forall_mem_cons.mpr ⟨xg_r (i := 49) (by decide +kernel) rfl, List.forall_mem_cons.mpr ⟨xg_r (i := 51) (by decide +kernel) rfl, List.forall_mem_cons.mpr ⟨xg_r (i := 53) (by decide +kernel) rfl, List.forall_mem_cons.mpr ⟨xg_r (i := 55) (by decide +kernel) rfl, List.forall_mem_cons.mpr ⟨xg_r (i := 57) (by decide +kernel) rfl, List.forall_mem_cons.mpr ⟨xg_r (i := 59) (by decide +kernel) rfl, List.forall_mem_cons.mpr ⟨xg_r (i := 61) (by decide +kernel) rfl, List.forall_mem_cons.mpr ⟨xg_r (i := 63) (by decide +kernel) rfl, List.forall_mem_cons.mpr ⟨xg_r (i := 65) (by decide +kernel) rfl, List.forall_mem_cons.mpr ⟨xg_r (i := 67) (by decide +kernel) rfl, fun _ h => absurd h List.not_mem_nil⟩⟩⟩⟩⟩⟩⟩⟩⟩⟩⟩⟩
theorem iwX2 : ∀ w ∈ u_ws RX2 TX2 8, w ∈ gw := List.forall_mem_cons.mpr ⟨xg_r (i := 111) (by decide +kernel) rfl, List.forall_mem_cons.mpr ⟨xg_r (i := 113) (by decide +kernel) rfl, List.forall_mem_cons.mpr ⟨xg_r (i := 115) (by decide +kernel) rfl, List.forall_mem_cons.mpr ⟨xg_r (i := 117) (by decide +kernel) rfl, List.forall_mem_cons.mpr ⟨xg_r (i := 119) (by decide +kernel) rfl, List.forall_mem_cons.mpr ⟨xg_r (i := 121) (by decide +kernel) rfl, List.forall_mem_cons.mpr ⟨xg_r (i := 123) (by decide +kernel) rfl, List.forall_mem_cons.mpr ⟨xg_r (i := 125) (by decide +kernel) rfl, fun _ h => absurd h List.not_mem_nil⟩⟩⟩⟩⟩⟩⟩⟩
theorem iwX3 : ∀ w ∈ u_ws RX3 TX3 5, w ∈ gw := List.forall_mem_cons.mpr ⟨xg_r (i := 133) (by decide +kernel) rfl, List.forall_mem_cons.mpr ⟨xg_r (i := 135) (by decide +kernel) rfl, List.forall_mem_cons.mpr ⟨xg_r (i := 137) (by decide +kernel) rfl, List.forall_mem_cons.mpr ⟨xg_r (i := 139) (by decide +kernel) rfl, List.forall_mem_cons.mpr ⟨xg_r (i := 141) (by decide +kernel) rfl, fun _ h => absurd h List.not_mem_nil⟩⟩⟩⟩⟩
theorem iwX4 : ∀ w ∈ u_ws RX4 TX4 11, w ∈ gw := List.forall_mem_cons.mpr ⟨xg_r (i := 522) (by decide +kernel) rfl, List.forall_mem_cons.mpr ⟨xg_r (i := 524) (by decide +kernel) rfl, List.forall_mem_cons.mpr ⟨xg_r (i := 526) (by decide +kernel) rfl, List.forall_mem_cons.mpr ⟨xg_r (i := 528) (by decide +kernel) rfl, List.forall_mem_cons.mpr ⟨xg_r (i := 530) (by decide +kernel) rfl, List.forall_mem_cons.mpr ⟨xg_r (i := 532) (by decide +kernel) rfl, List.forall_mem_cons.mpr ⟨xg_r (i := 534) (by decide +kernel) rfl, List.forall_mem_cons.mpr ⟨xg_r (i := 536) (by decide +kernel) rfl, List.forall_mem_cons.mpr ⟨xg_r (i := 538) (by decide +kernel) rfl, List.forall_mem_cons.mpr ⟨xg_r (i := 540) (by decide +kernel) rfl, List.forall_mem_cons.mpr ⟨xg_r (i := 542) (by decide +kernel) rfl, fun _ h => absurd h List.not_mem_nil⟩⟩⟩⟩⟩⟩⟩⟩⟩⟩⟩
