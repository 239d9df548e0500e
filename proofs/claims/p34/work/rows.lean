section
-- ===== PART A: goes FIRST, ahead of the names: the tables' words, and 'selects' of the private methods out of them =====
/-- a private method of a class that the tables say can be made, by its rows of tables_1 -/
def lw_okq (q : MethodName × Nat) : Prop := (q.1.cls ≠ "java/lang/invoke/MethodHandle" ∧ q.1.cls ≠ "java/lang/invoke/VarHandle") ∧ Cond.instantiable q.1.cls q.2 ∈ tables_1 ∧ Cond.privateMethod q.1 ∈ tables_1 ∧ Cond.instanceMethod q.1 ∈ tables_1
theorem lw_p0 : lw_okq (⟨"TernaryMatcher", "rearrange", "(I)I"⟩, 5) := ⟨⟨by decide +kernel, by decide +kernel⟩, List.mem_of_getElem? (i := 8) (by decide +kernel), List.mem_of_getElem? (i := 148) (by decide +kernel), List.mem_of_getElem? (i := 149) (by decide +kernel)⟩
theorem lw_p1 : lw_okq (⟨"TernaryMatcher$Memory", "moveToFront", "()I"⟩, 12) := ⟨⟨by decide +kernel, by decide +kernel⟩, List.mem_of_getElem? (i := 16) (by decide +kernel), List.mem_of_getElem? (i := 181) (by decide +kernel), List.mem_of_getElem? (i := 182) (by decide +kernel)⟩
theorem lw_p2 : lw_okq (⟨"TernaryMatcher$Memory", "moveEntry", "(II)V"⟩, 12) := ⟨⟨by decide +kernel, by decide +kernel⟩, List.mem_of_getElem? (i := 16) (by decide +kernel), List.mem_of_getElem? (i := 185) (by decide +kernel), List.mem_of_getElem? (i := 186) (by decide +kernel)⟩
theorem lw_p3 : lw_okq (⟨"TernaryMatcher$Memory", "firstEntryOfBank", "(I)I"⟩, 12) := ⟨⟨by decide +kernel, by decide +kernel⟩, List.mem_of_getElem? (i := 16) (by decide +kernel), List.mem_of_getElem? (i := 227) (by decide +kernel), List.mem_of_getElem? (i := 228) (by decide +kernel)⟩
theorem lw_p4 : lw_okq (⟨"TernaryMatcher$RuleText", "readEntry", "(I)Z"⟩, 8) := ⟨⟨by decide +kernel, by decide +kernel⟩, List.mem_of_getElem? (i := 91) (by decide +kernel), List.mem_of_getElem? (i := 247) (by decide +kernel), List.mem_of_getElem? (i := 248) (by decide +kernel)⟩
theorem lw_p5 : lw_okq (⟨"TernaryMatcher$RuleText", "sign", "()I"⟩, 8) := ⟨⟨by decide +kernel, by decide +kernel⟩, List.mem_of_getElem? (i := 91) (by decide +kernel), List.mem_of_getElem? (i := 251) (by decide +kernel), List.mem_of_getElem? (i := 252) (by decide +kernel)⟩
theorem lw_p6 : lw_okq (⟨"TernaryMatcher$RuleText", "skip", "(C)Z"⟩, 8) := ⟨⟨by decide +kernel, by decide +kernel⟩, List.mem_of_getElem? (i := 91) (by decide +kernel), List.mem_of_getElem? (i := 255) (by decide +kernel), List.mem_of_getElem? (i := 256) (by decide +kernel)⟩
theorem lw_p7 : lw_okq (⟨"TernaryMatcher$RuleText", "readRank", "(I)Z"⟩, 8) := ⟨⟨by decide +kernel, by decide +kernel⟩, List.mem_of_getElem? (i := 91) (by decide +kernel), List.mem_of_getElem? (i := 259) (by decide +kernel), List.mem_of_getElem? (i := 260) (by decide +kernel)⟩
theorem lw_p8 : lw_okq (⟨"TernaryMatcher$RuleText", "digit", "()I"⟩, 8) := ⟨⟨by decide +kernel, by decide +kernel⟩, List.mem_of_getElem? (i := 91) (by decide +kernel), List.mem_of_getElem? (i := 263) (by decide +kernel), List.mem_of_getElem? (i := 264) (by decide +kernel)⟩
theorem lw_p9 : lw_okq (⟨"TernaryMatcher$RuleText", "readAction", "(I)Z"⟩, 8) := ⟨⟨by decide +kernel, by decide +kernel⟩, List.mem_of_getElem? (i := 91) (by decide +kernel), List.mem_of_getElem? (i := 267) (by decide +kernel), List.mem_of_getElem? (i := 268) (by decide +kernel)⟩
theorem lw_p10 : lw_okq (⟨"TernaryMatcher$Memory", "openSlot", "(I)I"⟩, 12) := ⟨⟨by decide +kernel, by decide +kernel⟩, List.mem_of_getElem? (i := 16) (by decide +kernel), List.mem_of_getElem? (i := 280) (by decide +kernel), List.mem_of_getElem? (i := 281) (by decide +kernel)⟩
theorem lw_p11 : lw_okq (⟨"TernaryMatcher$Memory", "lastSlotUpTo", "(I)I"⟩, 12) := ⟨⟨by decide +kernel, by decide +kernel⟩, List.mem_of_getElem? (i := 16) (by decide +kernel), List.mem_of_getElem? (i := 284) (by decide +kernel), List.mem_of_getElem? (i := 285) (by decide +kernel)⟩
theorem lw_p12 : lw_okq (⟨"TernaryMatcher$Memory", "firstSlotBeyond", "(I)I"⟩, 12) := ⟨⟨by decide +kernel, by decide +kernel⟩, List.mem_of_getElem? (i := 16) (by decide +kernel), List.mem_of_getElem? (i := 288) (by decide +kernel), List.mem_of_getElem? (i := 289) (by decide +kernel)⟩
theorem lw_p13 : lw_okq (⟨"TernaryMatcher$Memory", "placeBetween", "(II)I"⟩, 12) := ⟨⟨by decide +kernel, by decide +kernel⟩, List.mem_of_getElem? (i := 16) (by decide +kernel), List.mem_of_getElem? (i := 292) (by decide +kernel), List.mem_of_getElem? (i := 293) (by decide +kernel)⟩
theorem lw_p14 : lw_okq (⟨"TernaryMatcher$Memory", "movesUpFrom", "(I)I"⟩, 12) := ⟨⟨by decide +kernel, by decide +kernel⟩, List.mem_of_getElem? (i := 16) (by decide +kernel), List.mem_of_getElem? (i := 296) (by decide +kernel), List.mem_of_getElem? (i := 297) (by decide +kernel)⟩
theorem lw_p15 : lw_okq (⟨"TernaryMatcher$Memory", "movesDownFrom", "(I)I"⟩, 12) := ⟨⟨by decide +kernel, by decide +kernel⟩, List.mem_of_getElem? (i := 16) (by decide +kernel), List.mem_of_getElem? (i := 300) (by decide +kernel), List.mem_of_getElem? (i := 301) (by decide +kernel)⟩
def lw_privs_1 : List (MethodName × Nat) := [(⟨"TernaryMatcher", "rearrange", "(I)I"⟩, 5), (⟨"TernaryMatcher$Memory", "moveToFront", "()I"⟩, 12), (⟨"TernaryMatcher$Memory", "moveEntry", "(II)V"⟩, 12), (⟨"TernaryMatcher$Memory", "firstEntryOfBank", "(I)I"⟩, 12), (⟨"TernaryMatcher$RuleText", "readEntry", "(I)Z"⟩, 8), (⟨"TernaryMatcher$RuleText", "sign", "()I"⟩, 8), (⟨"TernaryMatcher$RuleText", "skip", "(C)Z"⟩, 8), (⟨"TernaryMatcher$RuleText", "readRank", "(I)Z"⟩, 8), (⟨"TernaryMatcher$RuleText", "digit", "()I"⟩, 8), (⟨"TernaryMatcher$RuleText", "readAction", "(I)Z"⟩, 8), (⟨"TernaryMatcher$Memory", "openSlot", "(I)I"⟩, 12), (⟨"TernaryMatcher$Memory", "lastSlotUpTo", "(I)I"⟩, 12), (⟨"TernaryMatcher$Memory", "firstSlotBeyond", "(I)I"⟩, 12), (⟨"TernaryMatcher$Memory", "placeBetween", "(II)I"⟩, 12), (⟨"TernaryMatcher$Memory", "movesUpFrom", "(I)I"⟩, 12), (⟨"TernaryMatcher$Memory", "movesDownFrom", "(I)I"⟩, 12)]
theorem lw_r1 : ∀ q ∈ lw_privs_1, lw_okq q := List.forall_mem_cons.mpr ⟨lw_p0, List.forall_mem_cons.mpr ⟨lw_p1, List.forall_mem_cons.mpr ⟨lw_p2, List.forall_mem_cons.mpr ⟨lw_p3, List.forall_mem_cons.mpr ⟨lw_p4, List.forall_mem_cons.mpr ⟨lw_p5, List.forall_mem_cons.mpr ⟨lw_p6, List.forall_mem_cons.mpr ⟨lw_p7, List.forall_mem_cons.mpr ⟨lw_p8, List.forall_mem_cons.mpr ⟨lw_p9, List.forall_mem_cons.mpr ⟨lw_p10, List.forall_mem_cons.mpr ⟨lw_p11, List.forall_mem_cons.mpr ⟨lw_p12, List.forall_mem_cons.mpr ⟨lw_p13, List.forall_mem_cons.mpr ⟨lw_p14, List.forall_mem_cons.mpr ⟨lw_p15, fun _ h => absurd h List.not_mem_nil⟩⟩⟩⟩⟩⟩⟩⟩⟩⟩⟩⟩⟩⟩⟩⟩
theorem lw_p16 : lw_okq (⟨"TernaryMatcher$Memory", "moveUp", "(II)V"⟩, 12) := ⟨⟨by decide +kernel, by decide +kernel⟩, List.mem_of_getElem? (i := 16) (by decide +kernel), List.mem_of_getElem? (i := 304) (by decide +kernel), List.mem_of_getElem? (i := 305) (by decide +kernel)⟩
theorem lw_p17 : lw_okq (⟨"TernaryMatcher$Memory", "moveDown", "(II)V"⟩, 12) := ⟨⟨by decide +kernel, by decide +kernel⟩, List.mem_of_getElem? (i := 16) (by decide +kernel), List.mem_of_getElem? (i := 308) (by decide +kernel), List.mem_of_getElem? (i := 309) (by decide +kernel)⟩
theorem lw_p18 : lw_okq (⟨"TernaryMatcher$Memory", "fill", "(IIIIIII)V"⟩, 12) := ⟨⟨by decide +kernel, by decide +kernel⟩, List.mem_of_getElem? (i := 16) (by decide +kernel), List.mem_of_getElem? (i := 312) (by decide +kernel), List.mem_of_getElem? (i := 313) (by decide +kernel)⟩
def lw_privs_2 : List (MethodName × Nat) := [(⟨"TernaryMatcher$Memory", "moveUp", "(II)V"⟩, 12), (⟨"TernaryMatcher$Memory", "moveDown", "(II)V"⟩, 12), (⟨"TernaryMatcher$Memory", "fill", "(IIIIIII)V"⟩, 12)]
theorem lw_r2 : ∀ q ∈ lw_privs_2, lw_okq q := List.forall_mem_cons.mpr ⟨lw_p16, List.forall_mem_cons.mpr ⟨lw_p17, List.forall_mem_cons.mpr ⟨lw_p18, fun _ h => absurd h List.not_mem_nil⟩⟩⟩
def lw_privs : List (MethodName × Nat) := lw_privs_1 ++ (lw_privs_2)
def lw_tbl : List Cond := k2_sels lw_privs ++ tables_1
theorem lw_privs_ok : ∀ q ∈ lw_privs, lw_okq q := by
  show ∀ q ∈ lw_privs_1 ++ (lw_privs_2), lw_okq q
  exact List.forall_mem_append.mpr ⟨lw_r1, lw_r2⟩
-- ===== end of PART A; then your names; then what follows =====
end
section
def RX0 : String := "TernaryMatcher$History"
def TX0 : u_T := fun k => match k with
  | 0 => ("TernaryMatcher$History", "states", "[LTernaryMatcher$Memory;", true)
  | 1 => ("TernaryMatcher$History", "oldest", "I", false)
  | _ => ("TernaryMatcher$History", "count", "I", false)
def tyX0 : Nat → FieldType := fun k => match k with
  | 0 => .array (.object "TernaryMatcher$Memory")
  | 1 => .int
  | _ => .int
abbrev wsX00 : List Cond := u_ws RX0 TX0 3
theorem nmX0 : ∀ a, a < 3 → ∀ b, b < 3 → a ≠ b → (TX0 a).2.1 ≠ (TX0 b).2.1 := by decide +kernel
theorem tyX0_ok : ∀ k, k < 3 → parseFieldDescriptor (TX0 k).2.2.1 = some (tyX0 k) := by decide +kernel
abbrev cX0_init : ByteArray := prog_2_method_1_code
def yX0_init : MethodName := ⟨RX0, "<init>", "()V"⟩
abbrev cX0_record : ByteArray := prog_2_method_2_code
def yX0_record : MethodName := ⟨RX0, "record", "(LTernaryMatcher$Memory;)V"⟩
abbrev cX0_takeLatestInto : ByteArray := prog_2_method_3_code
def yX0_takeLatestInto : MethodName := ⟨RX0, "takeLatestInto", "(LTernaryMatcher$Memory;)V"⟩
def RX1 : String := "TernaryMatcher$Memory"
def TX1 : u_T := fun k => match k with
  | 0 => ("TernaryMatcher$Memory", "ruleAt", "[I", true)
  | 1 => ("TernaryMatcher$Memory", "partAt", "[I", true)
  | 2 => ("TernaryMatcher$Memory", "maskAt", "[I", true)
  | 3 => ("TernaryMatcher$Memory", "valueAt", "[I", true)
  | 4 => ("TernaryMatcher$Memory", "rankAt", "[I", true)
  | 5 => ("TernaryMatcher$Memory", "actionAt", "[I", true)
  | 6 => ("TernaryMatcher$Memory", "hitsAt", "[I", true)
  | 7 => ("TernaryMatcher$Memory", "placing", "I", false)
  | 8 => ("TernaryMatcher$Memory", "rulesAdded", "I", false)
  | 9 => ("TernaryMatcher$Memory", "entriesMoved", "I", false)
  | 10 => ("TernaryMatcher$Memory", "searches", "I", false)
  | _ => ("TernaryMatcher$Memory", "powers", "I", false)
def tyX1 : Nat → FieldType := fun k => match k with
  | 0 => .array .int
  | 1 => .array .int
  | 2 => .array .int
  | 3 => .array .int
  | 4 => .array .int
  | 5 => .array .int
  | 6 => .array .int
  | 7 => .int
  | 8 => .int
  | 9 => .int
  | 10 => .int
  | _ => .int
abbrev wsX10 : List Cond := u_ws RX1 TX1 12
theorem nmX1 : ∀ a, a < 12 → ∀ b, b < 12 → a ≠ b → (TX1 a).2.1 ≠ (TX1 b).2.1 := by decide +kernel
theorem tyX1_ok : ∀ k, k < 12 → parseFieldDescriptor (TX1 k).2.2.1 = some (tyX1 k) := by decide +kernel
abbrev cX1_init : ByteArray := prog_3_method_1_code
def yX1_init : MethodName := ⟨RX1, "<init>", "()V"⟩
abbrev cX1_copyFrom : ByteArray := prog_3_method_2_code
def yX1_copyFrom : MethodName := ⟨RX1, "copyFrom", "(LTernaryMatcher$Memory;)V"⟩
abbrev cX1_holdsEntry : ByteArray := prog_3_method_3_code
def yX1_holdsEntry : MethodName := ⟨RX1, "holdsEntry", "(I)Z"⟩
abbrev cX1_told : ByteArray := prog_3_method_4_code
def yX1_told : MethodName := ⟨RX1, "told", "([II)I"⟩
abbrev cX1_entries : ByteArray := prog_3_method_5_code
def yX1_entries : MethodName := ⟨RX1, "entries", "()I"⟩
abbrev cX1_freeSlots : ByteArray := prog_3_method_6_code
def yX1_freeSlots : MethodName := ⟨RX1, "freeSlots", "()I"⟩
abbrev cX1_rules : ByteArray := prog_3_method_7_code
def yX1_rules : MethodName := ⟨RX1, "rules", "()I"⟩
abbrev cX1_entriesOf : ByteArray := prog_3_method_8_code
def yX1_entriesOf : MethodName := ⟨RX1, "entriesOf", "(I)I"⟩
abbrev cX1_slotHolding : ByteArray := prog_3_method_9_code
def yX1_slotHolding : MethodName := ⟨RX1, "slotHolding", "(II)I"⟩
abbrev cX1_dropEntriesOf : ByteArray := prog_3_method_10_code
def yX1_dropEntriesOf : MethodName := ⟨RX1, "dropEntriesOf", "(I)V"⟩
abbrev cX1_addSingle : ByteArray := prog_3_method_11_code
def yX1_addSingle : MethodName := ⟨RX1, "addSingle", "(IIII)I"⟩
abbrev cX1_addBlocks : ByteArray := prog_3_method_12_code
def yX1_addBlocks : MethodName := ⟨RX1, "addBlocks", "(IIII)I"⟩
abbrev cX1_fill : ByteArray := prog_3_method_13_code
def yX1_fill : MethodName := ⟨RX1, "fill", "(IIIIIII)V"⟩
abbrev cX1_openSlot : ByteArray := prog_3_method_14_code
def yX1_openSlot : MethodName := ⟨RX1, "openSlot", "(I)I"⟩
abbrev cX1_movesFor : ByteArray := prog_3_method_15_code
def yX1_movesFor : MethodName := ⟨RX1, "movesFor", "(I)I"⟩
abbrev cX1_lastSlotUpTo : ByteArray := prog_3_method_16_code
def yX1_lastSlotUpTo : MethodName := ⟨RX1, "lastSlotUpTo", "(I)I"⟩
abbrev cX1_firstSlotBeyond : ByteArray := prog_3_method_17_code
def yX1_firstSlotBeyond : MethodName := ⟨RX1, "firstSlotBeyond", "(I)I"⟩
abbrev cX1_placeBetween : ByteArray := prog_3_method_18_code
def yX1_placeBetween : MethodName := ⟨RX1, "placeBetween", "(II)I"⟩
abbrev cX1_movesUpFrom : ByteArray := prog_3_method_19_code
def yX1_movesUpFrom : MethodName := ⟨RX1, "movesUpFrom", "(I)I"⟩
abbrev cX1_movesDownFrom : ByteArray := prog_3_method_20_code
def yX1_movesDownFrom : MethodName := ⟨RX1, "movesDownFrom", "(I)I"⟩
abbrev cX1_moveUp : ByteArray := prog_3_method_21_code
def yX1_moveUp : MethodName := ⟨RX1, "moveUp", "(II)V"⟩
abbrev cX1_moveDown : ByteArray := prog_3_method_22_code
def yX1_moveDown : MethodName := ⟨RX1, "moveDown", "(II)V"⟩
abbrev cX1_moveEntry : ByteArray := prog_3_method_23_code
def yX1_moveEntry : MethodName := ⟨RX1, "moveEntry", "(II)V"⟩
abbrev cX1_firstSlotOfShare : ByteArray := prog_3_method_24_code
def yX1_firstSlotOfShare : MethodName := ⟨RX1, "firstSlotOfShare", "(II)I"⟩
abbrev cX1_entriesOutOfShare : ByteArray := prog_3_method_25_code
def yX1_entriesOutOfShare : MethodName := ⟨RX1, "entriesOutOfShare", "(I)I"⟩
abbrev cX1_moveIntoShares : ByteArray := prog_3_method_26_code
def yX1_moveIntoShares : MethodName := ⟨RX1, "moveIntoShares", "(I)V"⟩
abbrev cX1_moveToFront : ByteArray := prog_3_method_27_code
def yX1_moveToFront : MethodName := ⟨RX1, "moveToFront", "()I"⟩
abbrev cX1_slotFoundBy : ByteArray := prog_3_method_28_code
def yX1_slotFoundBy : MethodName := ⟨RX1, "slotFoundBy", "(I)I"⟩
abbrev cX1_keysFinding : ByteArray := prog_3_method_29_code
def yX1_keysFinding : MethodName := ⟨RX1, "keysFinding", "(I)I"⟩
abbrev cX1_entriesNeverFound : ByteArray := prog_3_method_30_code
def yX1_entriesNeverFound : MethodName := ⟨RX1, "entriesNeverFound", "()I"⟩
abbrev cX1_countSearch : ByteArray := prog_3_method_31_code
def yX1_countSearch : MethodName := ⟨RX1, "countSearch", "(II)V"⟩
abbrev cX1_slotHiding : ByteArray := prog_3_method_32_code
def yX1_slotHiding : MethodName := ⟨RX1, "slotHiding", "(I)I"⟩
abbrev cX1_entriesInBank : ByteArray := prog_3_method_33_code
def yX1_entriesInBank : MethodName := ⟨RX1, "entriesInBank", "(I)I"⟩
abbrev cX1_powerFor : ByteArray := prog_3_method_34_code
def yX1_powerFor : MethodName := ⟨RX1, "powerFor", "(I)I"⟩
abbrev cX1_commonMask : ByteArray := prog_3_method_35_code
def yX1_commonMask : MethodName := ⟨RX1, "commonMask", "(I)I"⟩
abbrev cX1_commonValue : ByteArray := prog_3_method_36_code
def yX1_commonValue : MethodName := ⟨RX1, "commonValue", "(I)I"⟩
abbrev cX1_firstEntryOfBank : ByteArray := prog_3_method_37_code
def yX1_firstEntryOfBank : MethodName := ⟨RX1, "firstEntryOfBank", "(I)I"⟩
def RX2 : String := "TernaryMatcher$RuleText"
def TX2 : u_T := fun k => match k with
  | 0 => ("TernaryMatcher$RuleText", "signs", "[I", true)
  | 1 => ("TernaryMatcher$RuleText", "length", "I", false)
  | 2 => ("TernaryMatcher$RuleText", "at", "I", false)
  | 3 => ("TernaryMatcher$RuleText", "rulesRead", "I", false)
  | 4 => ("TernaryMatcher$RuleText", "masks", "[I", true)
  | 5 => ("TernaryMatcher$RuleText", "values", "[I", true)
  | 6 => ("TernaryMatcher$RuleText", "ranks", "[I", true)
  | _ => ("TernaryMatcher$RuleText", "actions", "[I", true)
def tyX2 : Nat → FieldType := fun k => match k with
  | 0 => .array .int
  | 1 => .int
  | 2 => .int
  | 3 => .int
  | 4 => .array .int
  | 5 => .array .int
  | 6 => .array .int
  | _ => .array .int
abbrev wsX20 : List Cond := u_ws RX2 TX2 8
theorem nmX2 : ∀ a, a < 8 → ∀ b, b < 8 → a ≠ b → (TX2 a).2.1 ≠ (TX2 b).2.1 := by decide +kernel
theorem tyX2_ok : ∀ k, k < 8 → parseFieldDescriptor (TX2 k).2.2.1 = some (tyX2 k) := by decide +kernel
abbrev cX2_init : ByteArray := prog_4_method_1_code
def yX2_init : MethodName := ⟨RX2, "<init>", "()V"⟩
abbrev cX2_readRules : ByteArray := prog_4_method_3_code
def yX2_readRules : MethodName := ⟨RX2, "readRules", "()I"⟩
abbrev cX2_sign : ByteArray := prog_4_method_4_code
def yX2_sign : MethodName := ⟨RX2, "sign", "()I"⟩
abbrev cX2_digit : ByteArray := prog_4_method_5_code
def yX2_digit : MethodName := ⟨RX2, "digit", "()I"⟩
abbrev cX2_skip : ByteArray := prog_4_method_6_code
def yX2_skip : MethodName := ⟨RX2, "skip", "(C)Z"⟩
abbrev cX2_readEntry : ByteArray := prog_4_method_7_code
def yX2_readEntry : MethodName := ⟨RX2, "readEntry", "(I)Z"⟩
abbrev cX2_readRank : ByteArray := prog_4_method_8_code
def yX2_readRank : MethodName := ⟨RX2, "readRank", "(I)Z"⟩
abbrev cX2_readAction : ByteArray := prog_4_method_9_code
def yX2_readAction : MethodName := ⟨RX2, "readAction", "(I)Z"⟩
def RX3 : String := "TernaryMatcher"
def TX3 : u_T := fun k => match k with
  | 0 => ("TernaryMatcher", "memory", "LTernaryMatcher$Memory;", true)
  | 1 => ("TernaryMatcher", "snapshot", "LTernaryMatcher$Memory;", true)
  | 2 => ("TernaryMatcher", "history", "LTernaryMatcher$History;", true)
  | 3 => ("TernaryMatcher", "text", "LTernaryMatcher$RuleText;", true)
  | _ => ("TernaryMatcher", "snapshotTaken", "Z", false)
def tyX3 : Nat → FieldType := fun k => match k with
  | 0 => .object "TernaryMatcher$Memory"
  | 1 => .object "TernaryMatcher$Memory"
  | 2 => .object "TernaryMatcher$History"
  | 3 => .object "TernaryMatcher$RuleText"
  | _ => .boolean
abbrev wsX30 : List Cond := u_ws RX3 TX3 5
theorem nmX3 : ∀ a, a < 5 → ∀ b, b < 5 → a ≠ b → (TX3 a).2.1 ≠ (TX3 b).2.1 := by decide +kernel
theorem tyX3_ok : ∀ k, k < 5 → parseFieldDescriptor (TX3 k).2.2.1 = some (tyX3 k) := by decide +kernel
abbrev cX3_init : ByteArray := prog_1_method_1_code
def yX3_init : MethodName := ⟨RX3, "<init>", "()V"⟩
abbrev cX3_addRule : ByteArray := prog_1_method_2_code
def yX3_addRule : MethodName := ⟨RX3, "addRule", "(IIII)I"⟩
abbrev cX3_addRange : ByteArray := prog_1_method_3_code
def yX3_addRange : MethodName := ⟨RX3, "addRange", "(IIII)I"⟩
abbrev cX3_remove : ByteArray := prog_1_method_4_code
def yX3_remove : MethodName := ⟨RX3, "remove", "(I)I"⟩
abbrev cX3_setPlacing : ByteArray := prog_1_method_5_code
def yX3_setPlacing : MethodName := ⟨RX3, "setPlacing", "(I)I"⟩
abbrev cX3_compact : ByteArray := prog_1_method_6_code
def yX3_compact : MethodName := ⟨RX3, "compact", "()I"⟩
abbrev cX3_spread : ByteArray := prog_1_method_7_code
def yX3_spread : MethodName := ⟨RX3, "spread", "()I"⟩
abbrev cX3_search : ByteArray := prog_1_method_8_code
def yX3_search : MethodName := ⟨RX3, "search", "(I)I"⟩
abbrev cX3_addText : ByteArray := prog_1_method_11_code
def yX3_addText : MethodName := ⟨RX3, "addText", "()I"⟩
abbrev cX3_undo : ByteArray := prog_1_method_12_code
def yX3_undo : MethodName := ⟨RX3, "undo", "()I"⟩
abbrev cX3_keep : ByteArray := prog_1_method_13_code
def yX3_keep : MethodName := ⟨RX3, "keep", "()I"⟩
abbrev cX3_restore : ByteArray := prog_1_method_14_code
def yX3_restore : MethodName := ⟨RX3, "restore", "()I"⟩
abbrev cX3_ruleIn : ByteArray := prog_1_method_15_code
def yX3_ruleIn : MethodName := ⟨RX3, "ruleIn", "(I)I"⟩
abbrev cX3_maskIn : ByteArray := prog_1_method_16_code
def yX3_maskIn : MethodName := ⟨RX3, "maskIn", "(I)I"⟩
abbrev cX3_valueIn : ByteArray := prog_1_method_17_code
def yX3_valueIn : MethodName := ⟨RX3, "valueIn", "(I)I"⟩
abbrev cX3_sortIn : ByteArray := prog_1_method_18_code
def yX3_sortIn : MethodName := ⟨RX3, "sortIn", "(I)I"⟩
abbrev cX3_slotOf : ByteArray := prog_1_method_19_code
def yX3_slotOf : MethodName := ⟨RX3, "slotOf", "(II)I"⟩
abbrev cX3_parts : ByteArray := prog_1_method_20_code
def yX3_parts : MethodName := ⟨RX3, "parts", "(I)I"⟩
abbrev cX3_rank : ByteArray := prog_1_method_21_code
def yX3_rank : MethodName := ⟨RX3, "rank", "(I)I"⟩
abbrev cX3_action : ByteArray := prog_1_method_22_code
def yX3_action : MethodName := ⟨RX3, "action", "(I)I"⟩
abbrev cX3_hits : ByteArray := prog_1_method_23_code
def yX3_hits : MethodName := ⟨RX3, "hits", "(I)I"⟩
abbrev cX3_find : ByteArray := prog_1_method_24_code
def yX3_find : MethodName := ⟨RX3, "find", "(I)I"⟩
abbrev cX3_power : ByteArray := prog_1_method_25_code
def yX3_power : MethodName := ⟨RX3, "power", "(I)I"⟩
abbrev cX3_filterMask : ByteArray := prog_1_method_26_code
def yX3_filterMask : MethodName := ⟨RX3, "filterMask", "(I)I"⟩
abbrev cX3_filterValue : ByteArray := prog_1_method_27_code
def yX3_filterValue : MethodName := ⟨RX3, "filterValue", "(I)I"⟩
abbrev cX3_hiddenBy : ByteArray := prog_1_method_28_code
def yX3_hiddenBy : MethodName := ⟨RX3, "hiddenBy", "(I)I"⟩
abbrev cX3_keysFor : ByteArray := prog_1_method_29_code
def yX3_keysFor : MethodName := ⟨RX3, "keysFor", "(I)I"⟩
abbrev cX3_wouldMove : ByteArray := prog_1_method_30_code
def yX3_wouldMove : MethodName := ⟨RX3, "wouldMove", "(I)I"⟩
abbrev cX3_entriesFor : ByteArray := prog_1_method_31_code
def yX3_entriesFor : MethodName := ⟨RX3, "entriesFor", "(II)I"⟩
abbrev cX3_total : ByteArray := prog_1_method_32_code
def yX3_total : MethodName := ⟨RX3, "total", "(I)I"⟩
abbrev cX3_rearrange : ByteArray := prog_1_method_33_code
def yX3_rearrange : MethodName := ⟨RX3, "rearrange", "(I)I"⟩
abbrev cX3_isSlot : ByteArray := prog_1_method_34_code
def yX3_isSlot : MethodName := ⟨RX3, "isSlot", "(I)Z"⟩
abbrev cX3_isBank : ByteArray := prog_1_method_35_code
def yX3_isBank : MethodName := ⟨RX3, "isBank", "(I)Z"⟩
abbrev cX3_isKey : ByteArray := prog_1_method_36_code
def yX3_isKey : MethodName := ⟨RX3, "isKey", "(I)Z"⟩
abbrev cX3_isRange : ByteArray := prog_1_method_37_code
def yX3_isRange : MethodName := ⟨RX3, "isRange", "(II)Z"⟩
abbrev cX3_isRank : ByteArray := prog_1_method_38_code
def yX3_isRank : MethodName := ⟨RX3, "isRank", "(I)Z"⟩
abbrev cX3_isAction : ByteArray := prog_1_method_39_code
def yX3_isAction : MethodName := ⟨RX3, "isAction", "(I)Z"⟩
abbrev cX3_sortOfMask : ByteArray := prog_1_method_40_code
def yX3_sortOfMask : MethodName := ⟨RX3, "sortOfMask", "(I)I"⟩
abbrev cX3_blocksOf : ByteArray := prog_1_method_41_code
def yX3_blocksOf : MethodName := ⟨RX3, "blocksOf", "(II)I"⟩
abbrev cX3_blockSize : ByteArray := prog_1_method_42_code
def yX3_blockSize : MethodName := ⟨RX3, "blockSize", "(II)I"⟩
abbrev cX3_copyState : ByteArray := prog_1_method_43_code
def yX3_copyState : MethodName := ⟨RX3, "copyState", "(LTernaryMatcher$Memory;LTernaryMatcher$Memory;)V"⟩
def RX4 : String := "TernaryMatcherModel"
def TX4 : u_T := fun k => match k with
  | _ => ("", "", "", false)
def tyX4 : Nat → FieldType := fun k => match k with
  | _ => .int
abbrev wsX40 : List Cond := u_ws RX4 TX4 0
theorem nmX4 : ∀ a, a < 0 → ∀ b, b < 0 → a ≠ b → (TX4 a).2.1 ≠ (TX4 b).2.1 := by decide +kernel
theorem tyX4_ok : ∀ k, k < 0 → parseFieldDescriptor (TX4 k).2.2.1 = some (tyX4 k) := by decide +kernel
def RJ6 : String := "java/lang/Integer"
def TJ6 : u_T := fun k => match k with
  | _ => ("", "", "", false)
def tyJ6 : Nat → FieldType := fun k => match k with
  | _ => .int
abbrev wsJ60 : List Cond := u_ws RJ6 TJ6 0
theorem nmJ6 : ∀ a, a < 0 → ∀ b, b < 0 → a ≠ b → (TJ6 a).2.1 ≠ (TJ6 b).2.1 := by decide +kernel
theorem tyJ6_ok : ∀ k, k < 0 → parseFieldDescriptor (TJ6 k).2.2.1 = some (tyJ6 k) := by decide +kernel
abbrev cJ6_bitCount_0f7a4 : ByteArray := prog_7_method_49_code
def yJ6_bitCount_0f7a4 : MethodName := ⟨RJ6, "bitCount", "(I)I"⟩
def RJ9 : String := "java/lang/Math"
def TJ9 : u_T := fun k => match k with
  | _ => ("", "", "", false)
def tyJ9 : Nat → FieldType := fun k => match k with
  | _ => .int
abbrev wsJ90 : List Cond := u_ws RJ9 TJ9 0
theorem nmJ9 : ∀ a, a < 0 → ∀ b, b < 0 → a ≠ b → (TJ9 a).2.1 ≠ (TJ9 b).2.1 := by decide +kernel
theorem tyJ9_ok : ∀ k, k < 0 → parseFieldDescriptor (TJ9 k).2.2.1 = some (tyJ9 k) := by decide +kernel
abbrev cJ9_floorMod_7cf53 : ByteArray := prog_8_method_50_code
def yJ9_floorMod_7cf53 : MethodName := ⟨RJ9, "floorMod", "(II)I"⟩
abbrev cJ9_min_7cf53 : ByteArray := prog_8_method_69_code
def yJ9_min_7cf53 : MethodName := ⟨RJ9, "min", "(II)I"⟩
def RL : String := "TernaryMatcherLaw"
abbrev cL_cell : ByteArray := method_2_code
def yL_cell : MethodName := ⟨RL, "cell", "([II)I"⟩
abbrev cL_seen : ByteArray := method_3_code
def yL_seen : MethodName := ⟨RL, "seen", "(LTernaryMatcher;)J"⟩
abbrev cL_isInOrder : ByteArray := method_4_code
def yL_isInOrder : MethodName := ⟨RL, "isInOrder", "(LTernaryMatcher;)Z"⟩
abbrev cL_isCounted : ByteArray := method_5_code
def yL_isCounted : MethodName := ⟨RL, "isCounted", "(LTernaryMatcher;I)Z"⟩
abbrev cL_refusesAny : ByteArray := method_6_code
def yL_refusesAny : MethodName := ⟨RL, "refusesAny", "(LTernaryMatcher;I)Z"⟩
abbrev cL_refuses : ByteArray := method_7_code
def yL_refuses : MethodName := ⟨RL, "refuses", "(LTernaryMatcher;I)Z"⟩
abbrev cL_adds : ByteArray := method_8_code
def yL_adds : MethodName := ⟨RL, "adds", "(LTernaryMatcher;I)I"⟩
abbrev cL_addsRange : ByteArray := method_9_code
def yL_addsRange : MethodName := ⟨RL, "addsRange", "(LTernaryMatcher;I)I"⟩
abbrev cL_rearranges : ByteArray := method_10_code
def yL_rearranges : MethodName := ⟨RL, "rearranges", "(LTernaryMatcher;Z)I"⟩
abbrev cL_searches : ByteArray := method_11_code
def yL_searches : MethodName := ⟨RL, "searches", "(LTernaryMatcher;I)I"⟩
abbrev cL_act : ByteArray := method_12_code
def yL_act : MethodName := ⟨RL, "act", "(LTernaryMatcher;I)I"⟩
abbrev cL_law : ByteArray := code
def yL_law : MethodName := ⟨RL, "law", "([I)Z"⟩
/-- the good words of the tables: what a callee may take from its caller -/
def gw : List Cond := lw_tbl.filter goodWord
theorem xg_r {w : Cond} {i : Nat} (h : tables_1[i]? = some w) (hg : goodWord w = true) : w ∈ gw := List.mem_filter.mpr ⟨List.mem_append_right _ (List.mem_of_getElem? h), hg⟩
theorem xg_l {w : Cond} {i : Nat} (h : (k2_sels lw_privs)[i]? = some w) (hg : goodWord w = true) : w ∈ gw := List.mem_filter.mpr ⟨List.mem_append_left _ (List.mem_of_getElem? h), hg⟩
def xisNest : Cond → Bool
  | .methodLinkNest .. => true
  | .fieldLinkNest .. => true
  | _ => false
def xnw : List Cond := tables_1.filter xisNest
theorem xn_r {w : Cond} {i : Nat} (h : tables_1[i]? = some w) (hg : xisNest w = true) : w ∈ xnw := List.mem_filter.mpr ⟨List.mem_of_getElem? h, hg⟩
/-- a method: its name, bytes, locals, what it returns, how deep its calls go -/
abbrev xMI : Type := MethodName × ByteArray × Nat × Option FieldType × Nat
def xCal (mi : xMI) (n : Nat) : Prop := Cond.code mi.1 mi.2.1 mi.2.2.1 mi.2.2.2.1 ∈ gw ∧ Cond.initialized mi.1.cls ∈ gw ∧ (mi.1.cls ≠ "java/lang/invoke/MethodHandle" ∧ mi.1.cls ≠ "java/lang/invoke/VarHandle" ∧ (parseMethodDescriptor mi.1.desc).map (fun d => d.parameters.length) = some n) ∧ plainFor mi.1 = true ∧ mi.2.2.1 ≤ 15
def xVir (mi : xMI) : Prop := Cond.instanceMethod mi.1 ∈ gw ∧ Cond.selects mi.1.cls mi.1 mi.1 ∈ gw
def xSta (mi : xMI) : Prop := Cond.static mi.1 ∈ gw
theorem xi_X0 : Cond.initialized RX0 ∈ gw := xg_r (i := 3) (by decide +kernel) rfl
theorem xi_X1 : Cond.initialized RX1 ∈ gw := xg_r (i := 2) (by decide +kernel) rfl
theorem xi_X2 : Cond.initialized RX2 ∈ gw := xg_r (i := 4) (by decide +kernel) rfl
theorem xi_X3 : Cond.initialized RX3 ∈ gw := xg_r (i := 1) (by decide +kernel) rfl
theorem xi_J6 : Cond.initialized RJ6 ∈ gw := xg_r (i := 6) (by decide +kernel) rfl
theorem xi_J9 : Cond.initialized RJ9 ∈ gw := xg_r (i := 5) (by decide +kernel) rfl
theorem xi_L : Cond.initialized RL ∈ gw := xg_r (i := 0) (by decide +kernel) rfl
def mX3_init : xMI := (yX3_init, cX3_init, 1, none, 2)
theorem fX3_init : xCal mX3_init 0 := ⟨xg_r (i := 11) (by decide +kernel) rfl, xi_X3, by decide +kernel, by decide +kernel, by decide⟩
theorem viX3_init : Cond.instanceMethod yX3_init ∈ gw := xg_r (i := 10) (by decide +kernel) rfl
def mX1_init : xMI := (yX1_init, cX1_init, 2, none, 0)
theorem fX1_init : xCal mX1_init 0 := ⟨xg_r (i := 19) (by decide +kernel) rfl, xi_X1, by decide +kernel, by decide +kernel, by decide⟩
theorem viX1_init : Cond.instanceMethod yX1_init ∈ gw := xg_r (i := 18) (by decide +kernel) rfl
def mX0_init : xMI := (yX0_init, cX0_init, 2, none, 1)
theorem fX0_init : xCal mX0_init 0 := ⟨xg_r (i := 74) (by decide +kernel) rfl, xi_X0, by decide +kernel, by decide +kernel, by decide⟩
theorem viX0_init : Cond.instanceMethod yX0_init ∈ gw := xg_r (i := 73) (by decide +kernel) rfl
def mX2_init : xMI := (yX2_init, cX2_init, 1, none, 0)
theorem fX2_init : xCal mX2_init 0 := ⟨xg_r (i := 94) (by decide +kernel) rfl, xi_X2, by decide +kernel, by decide +kernel, by decide⟩
theorem viX2_init : Cond.instanceMethod yX2_init ∈ gw := xg_r (i := 93) (by decide +kernel) rfl
def mX3_compact : xMI := (yX3_compact, cX3_compact, 1, (some .int), 5)
theorem fX3_compact : xCal mX3_compact 0 := ⟨xg_r (i := 146) (by decide +kernel) rfl, xi_X3, by decide +kernel, by decide +kernel, by decide⟩
theorem vX3_compact : xVir mX3_compact := ⟨xg_r (i := 144) (by decide +kernel) rfl, xg_r (i := 145) (by decide +kernel) rfl⟩
def mX3_rearrange : xMI := (yX3_rearrange, cX3_rearrange, 3, (some .int), 4)
theorem fX3_rearrange : xCal mX3_rearrange 1 := ⟨xg_r (i := 150) (by decide +kernel) rfl, xi_X3, by decide +kernel, by decide +kernel, by decide⟩
theorem vX3_rearrange : xVir mX3_rearrange := ⟨xg_r (i := 149) (by decide +kernel) rfl, xg_l (i := 0) (by decide +kernel) rfl⟩
def mX1_entriesOutOfShare : xMI := (yX1_entriesOutOfShare, cX1_entriesOutOfShare, 5, (some .int), 1)
theorem fX1_entriesOutOfShare : xCal mX1_entriesOutOfShare 1 := ⟨xg_r (i := 154) (by decide +kernel) rfl, xi_X1, by decide +kernel, by decide +kernel, by decide⟩
theorem vX1_entriesOutOfShare : xVir mX1_entriesOutOfShare := ⟨xg_r (i := 152) (by decide +kernel) rfl, xg_r (i := 153) (by decide +kernel) rfl⟩
def mX1_holdsEntry : xMI := (yX1_holdsEntry, cX1_holdsEntry, 2, (some .boolean), 0)
theorem fX1_holdsEntry : xCal mX1_holdsEntry 1 := ⟨xg_r (i := 158) (by decide +kernel) rfl, xi_X1, by decide +kernel, by decide +kernel, by decide⟩
theorem vX1_holdsEntry : xVir mX1_holdsEntry := ⟨xg_r (i := 156) (by decide +kernel) rfl, xg_r (i := 157) (by decide +kernel) rfl⟩
def mX1_firstSlotOfShare : xMI := (yX1_firstSlotOfShare, cX1_firstSlotOfShare, 2, (some .int), 0)
theorem fX1_firstSlotOfShare : xCal mX1_firstSlotOfShare 2 := ⟨xg_r (i := 161) (by decide +kernel) rfl, xi_X1, by decide +kernel, by decide +kernel, by decide⟩
theorem sX1_firstSlotOfShare : xSta mX1_firstSlotOfShare := xg_r (i := 160) (by decide +kernel) rfl
def mX0_record : xMI := (yX0_record, cX0_record, 2, none, 2)
theorem fX0_record : xCal mX0_record 1 := ⟨xg_r (i := 165) (by decide +kernel) rfl, xi_X0, by decide +kernel, by decide +kernel, by decide⟩
theorem vX0_record : xVir mX0_record := ⟨xg_r (i := 163) (by decide +kernel) rfl, xg_r (i := 164) (by decide +kernel) rfl⟩
def mJ9_floorMod_7cf53 : xMI := (yJ9_floorMod_7cf53, cJ9_floorMod_7cf53, 3, (some .int), 0)
theorem fJ9_floorMod_7cf53 : xCal mJ9_floorMod_7cf53 2 := ⟨xg_r (i := 168) (by decide +kernel) rfl, xi_J9, by decide +kernel, by decide +kernel, by decide⟩
theorem sJ9_floorMod_7cf53 : xSta mJ9_floorMod_7cf53 := xg_r (i := 167) (by decide +kernel) rfl
def mX3_copyState : xMI := (yX3_copyState, cX3_copyState, 2, none, 1)
theorem fX3_copyState : xCal mX3_copyState 2 := ⟨xg_r (i := 171) (by decide +kernel) rfl, xi_X3, by decide +kernel, by decide +kernel, by decide⟩
theorem sX3_copyState : xSta mX3_copyState := xg_r (i := 170) (by decide +kernel) rfl
def mX1_copyFrom : xMI := (yX1_copyFrom, cX1_copyFrom, 3, none, 0)
theorem fX1_copyFrom : xCal mX1_copyFrom 1 := ⟨xg_r (i := 175) (by decide +kernel) rfl, xi_X1, by decide +kernel, by decide +kernel, by decide⟩
theorem vX1_copyFrom : xVir mX1_copyFrom := ⟨xg_r (i := 173) (by decide +kernel) rfl, xg_r (i := 174) (by decide +kernel) rfl⟩
def mX1_moveIntoShares : xMI := (yX1_moveIntoShares, cX1_moveIntoShares, 4, none, 3)
theorem fX1_moveIntoShares : xCal mX1_moveIntoShares 1 := ⟨xg_r (i := 179) (by decide +kernel) rfl, xi_X1, by decide +kernel, by decide +kernel, by decide⟩
theorem vX1_moveIntoShares : xVir mX1_moveIntoShares := ⟨xg_r (i := 177) (by decide +kernel) rfl, xg_r (i := 178) (by decide +kernel) rfl⟩
def mX1_moveToFront : xMI := (yX1_moveToFront, cX1_moveToFront, 3, (some .int), 2)
theorem fX1_moveToFront : xCal mX1_moveToFront 0 := ⟨xg_r (i := 183) (by decide +kernel) rfl, xi_X1, by decide +kernel, by decide +kernel, by decide⟩
theorem vX1_moveToFront : xVir mX1_moveToFront := ⟨xg_r (i := 182) (by decide +kernel) rfl, xg_l (i := 1) (by decide +kernel) rfl⟩
def mX1_moveEntry : xMI := (yX1_moveEntry, cX1_moveEntry, 3, none, 1)
theorem fX1_moveEntry : xCal mX1_moveEntry 2 := ⟨xg_r (i := 187) (by decide +kernel) rfl, xi_X1, by decide +kernel, by decide +kernel, by decide⟩
theorem vX1_moveEntry : xVir mX1_moveEntry := ⟨xg_r (i := 186) (by decide +kernel) rfl, xg_l (i := 2) (by decide +kernel) rfl⟩
def mX3_isSlot : xMI := (yX3_isSlot, cX3_isSlot, 1, (some .boolean), 0)
theorem fX3_isSlot : xCal mX3_isSlot 1 := ⟨xg_r (i := 190) (by decide +kernel) rfl, xi_X3, by decide +kernel, by decide +kernel, by decide⟩
theorem sX3_isSlot : xSta mX3_isSlot := xg_r (i := 189) (by decide +kernel) rfl
def mX3_spread : xMI := (yX3_spread, cX3_spread, 1, (some .int), 5)
theorem fX3_spread : xCal mX3_spread 0 := ⟨xg_r (i := 194) (by decide +kernel) rfl, xi_X3, by decide +kernel, by decide +kernel, by decide⟩
theorem vX3_spread : xVir mX3_spread := ⟨xg_r (i := 192) (by decide +kernel) rfl, xg_r (i := 193) (by decide +kernel) rfl⟩
def mX1_entries : xMI := (yX1_entries, cX1_entries, 3, (some .int), 2)
theorem fX1_entries : xCal mX1_entries 0 := ⟨xg_r (i := 198) (by decide +kernel) rfl, xi_X1, by decide +kernel, by decide +kernel, by decide⟩
theorem vX1_entries : xVir mX1_entries := ⟨xg_r (i := 196) (by decide +kernel) rfl, xg_r (i := 197) (by decide +kernel) rfl⟩
def mX1_entriesInBank : xMI := (yX1_entriesInBank, cX1_entriesInBank, 4, (some .int), 1)
theorem fX1_entriesInBank : xCal mX1_entriesInBank 1 := ⟨xg_r (i := 202) (by decide +kernel) rfl, xi_X1, by decide +kernel, by decide +kernel, by decide⟩
theorem vX1_entriesInBank : xVir mX1_entriesInBank := ⟨xg_r (i := 200) (by decide +kernel) rfl, xg_r (i := 201) (by decide +kernel) rfl⟩
def mX3_search : xMI := (yX3_search, cX3_search, 3, (some .int), 6)
theorem fX3_search : xCal mX3_search 1 := ⟨xg_r (i := 206) (by decide +kernel) rfl, xi_X3, by decide +kernel, by decide +kernel, by decide⟩
theorem vX3_search : xVir mX3_search := ⟨xg_r (i := 204) (by decide +kernel) rfl, xg_r (i := 205) (by decide +kernel) rfl⟩
def mX3_isKey : xMI := (yX3_isKey, cX3_isKey, 1, (some .boolean), 0)
theorem fX3_isKey : xCal mX3_isKey 1 := ⟨xg_r (i := 209) (by decide +kernel) rfl, xi_X3, by decide +kernel, by decide +kernel, by decide⟩
theorem sX3_isKey : xSta mX3_isKey := xg_r (i := 208) (by decide +kernel) rfl
def mX1_slotFoundBy : xMI := (yX1_slotFoundBy, cX1_slotFoundBy, 3, (some .int), 1)
theorem fX1_slotFoundBy : xCal mX1_slotFoundBy 1 := ⟨xg_r (i := 213) (by decide +kernel) rfl, xi_X1, by decide +kernel, by decide +kernel, by decide⟩
theorem vX1_slotFoundBy : xVir mX1_slotFoundBy := ⟨xg_r (i := 211) (by decide +kernel) rfl, xg_r (i := 212) (by decide +kernel) rfl⟩
def mX1_countSearch : xMI := (yX1_countSearch, cX1_countSearch, 5, none, 5)
theorem fX1_countSearch : xCal mX1_countSearch 2 := ⟨xg_r (i := 217) (by decide +kernel) rfl, xi_X1, by decide +kernel, by decide +kernel, by decide⟩
theorem vX1_countSearch : xVir mX1_countSearch := ⟨xg_r (i := 215) (by decide +kernel) rfl, xg_r (i := 216) (by decide +kernel) rfl⟩
def mX1_powerFor : xMI := (yX1_powerFor, cX1_powerFor, 4, (some .int), 4)
theorem fX1_powerFor : xCal mX1_powerFor 1 := ⟨xg_r (i := 221) (by decide +kernel) rfl, xi_X1, by decide +kernel, by decide +kernel, by decide⟩
theorem vX1_powerFor : xVir mX1_powerFor := ⟨xg_r (i := 219) (by decide +kernel) rfl, xg_r (i := 220) (by decide +kernel) rfl⟩
def mX1_commonMask : xMI := (yX1_commonMask, cX1_commonMask, 6, (some .int), 2)
theorem fX1_commonMask : xCal mX1_commonMask 1 := ⟨xg_r (i := 225) (by decide +kernel) rfl, xi_X1, by decide +kernel, by decide +kernel, by decide⟩
theorem vX1_commonMask : xVir mX1_commonMask := ⟨xg_r (i := 223) (by decide +kernel) rfl, xg_r (i := 224) (by decide +kernel) rfl⟩
def mX1_firstEntryOfBank : xMI := (yX1_firstEntryOfBank, cX1_firstEntryOfBank, 3, (some .int), 1)
theorem fX1_firstEntryOfBank : xCal mX1_firstEntryOfBank 1 := ⟨xg_r (i := 229) (by decide +kernel) rfl, xi_X1, by decide +kernel, by decide +kernel, by decide⟩
theorem vX1_firstEntryOfBank : xVir mX1_firstEntryOfBank := ⟨xg_r (i := 228) (by decide +kernel) rfl, xg_l (i := 3) (by decide +kernel) rfl⟩
def mX1_commonValue : xMI := (yX1_commonValue, cX1_commonValue, 3, (some .int), 3)
theorem fX1_commonValue : xCal mX1_commonValue 1 := ⟨xg_r (i := 233) (by decide +kernel) rfl, xi_X1, by decide +kernel, by decide +kernel, by decide⟩
theorem vX1_commonValue : xVir mX1_commonValue := ⟨xg_r (i := 231) (by decide +kernel) rfl, xg_r (i := 232) (by decide +kernel) rfl⟩
def mX1_told : xMI := (yX1_told, cX1_told, 3, (some .int), 1)
theorem fX1_told : xCal mX1_told 2 := ⟨xg_r (i := 237) (by decide +kernel) rfl, xi_X1, by decide +kernel, by decide +kernel, by decide⟩
theorem vX1_told : xVir mX1_told := ⟨xg_r (i := 235) (by decide +kernel) rfl, xg_r (i := 236) (by decide +kernel) rfl⟩
def mX3_addText : xMI := (yX3_addText, cX3_addText, 4, (some .int), 5)
theorem fX3_addText : xCal mX3_addText 0 := ⟨xg_r (i := 241) (by decide +kernel) rfl, xi_X3, by decide +kernel, by decide +kernel, by decide⟩
theorem vX3_addText : xVir mX3_addText := ⟨xg_r (i := 239) (by decide +kernel) rfl, xg_r (i := 240) (by decide +kernel) rfl⟩
def mX2_readRules : xMI := (yX2_readRules, cX2_readRules, 2, (some .int), 3)
theorem fX2_readRules : xCal mX2_readRules 0 := ⟨xg_r (i := 245) (by decide +kernel) rfl, xi_X2, by decide +kernel, by decide +kernel, by decide⟩
theorem vX2_readRules : xVir mX2_readRules := ⟨xg_r (i := 243) (by decide +kernel) rfl, xg_r (i := 244) (by decide +kernel) rfl⟩
def mX2_readEntry : xMI := (yX2_readEntry, cX2_readEntry, 6, (some .boolean), 1)
theorem fX2_readEntry : xCal mX2_readEntry 1 := ⟨xg_r (i := 249) (by decide +kernel) rfl, xi_X2, by decide +kernel, by decide +kernel, by decide⟩
theorem vX2_readEntry : xVir mX2_readEntry := ⟨xg_r (i := 248) (by decide +kernel) rfl, xg_l (i := 4) (by decide +kernel) rfl⟩
def mX2_sign : xMI := (yX2_sign, cX2_sign, 1, (some .int), 0)
theorem fX2_sign : xCal mX2_sign 0 := ⟨xg_r (i := 253) (by decide +kernel) rfl, xi_X2, by decide +kernel, by decide +kernel, by decide⟩
theorem vX2_sign : xVir mX2_sign := ⟨xg_r (i := 252) (by decide +kernel) rfl, xg_l (i := 5) (by decide +kernel) rfl⟩
def mX2_skip : xMI := (yX2_skip, cX2_skip, 2, (some .boolean), 1)
theorem fX2_skip : xCal mX2_skip 1 := ⟨xg_r (i := 257) (by decide +kernel) rfl, xi_X2, by decide +kernel, by decide +kernel, by decide⟩
theorem vX2_skip : xVir mX2_skip := ⟨xg_r (i := 256) (by decide +kernel) rfl, xg_l (i := 6) (by decide +kernel) rfl⟩
def mX2_readRank : xMI := (yX2_readRank, cX2_readRank, 4, (some .boolean), 2)
theorem fX2_readRank : xCal mX2_readRank 1 := ⟨xg_r (i := 261) (by decide +kernel) rfl, xi_X2, by decide +kernel, by decide +kernel, by decide⟩
theorem vX2_readRank : xVir mX2_readRank := ⟨xg_r (i := 260) (by decide +kernel) rfl, xg_l (i := 7) (by decide +kernel) rfl⟩
def mX2_digit : xMI := (yX2_digit, cX2_digit, 2, (some .int), 1)
theorem fX2_digit : xCal mX2_digit 0 := ⟨xg_r (i := 265) (by decide +kernel) rfl, xi_X2, by decide +kernel, by decide +kernel, by decide⟩
theorem vX2_digit : xVir mX2_digit := ⟨xg_r (i := 264) (by decide +kernel) rfl, xg_l (i := 8) (by decide +kernel) rfl⟩
def mX2_readAction : xMI := (yX2_readAction, cX2_readAction, 3, (some .boolean), 2)
theorem fX2_readAction : xCal mX2_readAction 1 := ⟨xg_r (i := 269) (by decide +kernel) rfl, xi_X2, by decide +kernel, by decide +kernel, by decide⟩
theorem vX2_readAction : xVir mX2_readAction := ⟨xg_r (i := 268) (by decide +kernel) rfl, xg_l (i := 9) (by decide +kernel) rfl⟩
def mX1_freeSlots : xMI := (yX1_freeSlots, cX1_freeSlots, 1, (some .int), 3)
theorem fX1_freeSlots : xCal mX1_freeSlots 0 := ⟨xg_r (i := 273) (by decide +kernel) rfl, xi_X1, by decide +kernel, by decide +kernel, by decide⟩
theorem vX1_freeSlots : xVir mX1_freeSlots := ⟨xg_r (i := 271) (by decide +kernel) rfl, xg_r (i := 272) (by decide +kernel) rfl⟩
def mX1_addSingle : xMI := (yX1_addSingle, cX1_addSingle, 6, (some .int), 4)
theorem fX1_addSingle : xCal mX1_addSingle 4 := ⟨xg_r (i := 278) (by decide +kernel) rfl, xi_X1, by decide +kernel, by decide +kernel, by decide⟩
theorem vX1_addSingle : xVir mX1_addSingle := ⟨xg_r (i := 276) (by decide +kernel) rfl, xg_r (i := 277) (by decide +kernel) rfl⟩
def mX1_openSlot : xMI := (yX1_openSlot, cX1_openSlot, 6, (some .int), 3)
theorem fX1_openSlot : xCal mX1_openSlot 1 := ⟨xg_r (i := 282) (by decide +kernel) rfl, xi_X1, by decide +kernel, by decide +kernel, by decide⟩
theorem vX1_openSlot : xVir mX1_openSlot := ⟨xg_r (i := 281) (by decide +kernel) rfl, xg_l (i := 10) (by decide +kernel) rfl⟩
def mX1_lastSlotUpTo : xMI := (yX1_lastSlotUpTo, cX1_lastSlotUpTo, 3, (some .int), 1)
theorem fX1_lastSlotUpTo : xCal mX1_lastSlotUpTo 1 := ⟨xg_r (i := 286) (by decide +kernel) rfl, xi_X1, by decide +kernel, by decide +kernel, by decide⟩
theorem vX1_lastSlotUpTo : xVir mX1_lastSlotUpTo := ⟨xg_r (i := 285) (by decide +kernel) rfl, xg_l (i := 11) (by decide +kernel) rfl⟩
def mX1_firstSlotBeyond : xMI := (yX1_firstSlotBeyond, cX1_firstSlotBeyond, 3, (some .int), 1)
theorem fX1_firstSlotBeyond : xCal mX1_firstSlotBeyond 1 := ⟨xg_r (i := 290) (by decide +kernel) rfl, xi_X1, by decide +kernel, by decide +kernel, by decide⟩
theorem vX1_firstSlotBeyond : xVir mX1_firstSlotBeyond := ⟨xg_r (i := 289) (by decide +kernel) rfl, xg_l (i := 12) (by decide +kernel) rfl⟩
def mX1_placeBetween : xMI := (yX1_placeBetween, cX1_placeBetween, 3, (some .int), 0)
theorem fX1_placeBetween : xCal mX1_placeBetween 2 := ⟨xg_r (i := 294) (by decide +kernel) rfl, xi_X1, by decide +kernel, by decide +kernel, by decide⟩
theorem vX1_placeBetween : xVir mX1_placeBetween := ⟨xg_r (i := 293) (by decide +kernel) rfl, xg_l (i := 13) (by decide +kernel) rfl⟩
def mX1_movesUpFrom : xMI := (yX1_movesUpFrom, cX1_movesUpFrom, 3, (some .int), 1)
theorem fX1_movesUpFrom : xCal mX1_movesUpFrom 1 := ⟨xg_r (i := 298) (by decide +kernel) rfl, xi_X1, by decide +kernel, by decide +kernel, by decide⟩
theorem vX1_movesUpFrom : xVir mX1_movesUpFrom := ⟨xg_r (i := 297) (by decide +kernel) rfl, xg_l (i := 14) (by decide +kernel) rfl⟩
def mX1_movesDownFrom : xMI := (yX1_movesDownFrom, cX1_movesDownFrom, 3, (some .int), 1)
theorem fX1_movesDownFrom : xCal mX1_movesDownFrom 1 := ⟨xg_r (i := 302) (by decide +kernel) rfl, xi_X1, by decide +kernel, by decide +kernel, by decide⟩
theorem vX1_movesDownFrom : xVir mX1_movesDownFrom := ⟨xg_r (i := 301) (by decide +kernel) rfl, xg_l (i := 15) (by decide +kernel) rfl⟩
def mX1_moveUp : xMI := (yX1_moveUp, cX1_moveUp, 4, none, 2)
theorem fX1_moveUp : xCal mX1_moveUp 2 := ⟨xg_r (i := 306) (by decide +kernel) rfl, xi_X1, by decide +kernel, by decide +kernel, by decide⟩
theorem vX1_moveUp : xVir mX1_moveUp := ⟨xg_r (i := 305) (by decide +kernel) rfl, xg_l (i := 16) (by decide +kernel) rfl⟩
def mX1_moveDown : xMI := (yX1_moveDown, cX1_moveDown, 4, none, 2)
theorem fX1_moveDown : xCal mX1_moveDown 2 := ⟨xg_r (i := 310) (by decide +kernel) rfl, xi_X1, by decide +kernel, by decide +kernel, by decide⟩
theorem vX1_moveDown : xVir mX1_moveDown := ⟨xg_r (i := 309) (by decide +kernel) rfl, xg_l (i := 17) (by decide +kernel) rfl⟩
def mX1_fill : xMI := (yX1_fill, cX1_fill, 8, none, 1)
theorem fX1_fill : xCal mX1_fill 7 := ⟨xg_r (i := 314) (by decide +kernel) rfl, xi_X1, by decide +kernel, by decide +kernel, by decide⟩
theorem vX1_fill : xVir mX1_fill := ⟨xg_r (i := 313) (by decide +kernel) rfl, xg_l (i := 18) (by decide +kernel) rfl⟩
def mX3_undo : xMI := (yX3_undo, cX3_undo, 1, (some .int), 3)
theorem fX3_undo : xCal mX3_undo 0 := ⟨xg_r (i := 318) (by decide +kernel) rfl, xi_X3, by decide +kernel, by decide +kernel, by decide⟩
theorem vX3_undo : xVir mX3_undo := ⟨xg_r (i := 316) (by decide +kernel) rfl, xg_r (i := 317) (by decide +kernel) rfl⟩
def mX0_takeLatestInto : xMI := (yX0_takeLatestInto, cX0_takeLatestInto, 2, none, 2)
theorem fX0_takeLatestInto : xCal mX0_takeLatestInto 1 := ⟨xg_r (i := 322) (by decide +kernel) rfl, xi_X0, by decide +kernel, by decide +kernel, by decide⟩
theorem vX0_takeLatestInto : xVir mX0_takeLatestInto := ⟨xg_r (i := 320) (by decide +kernel) rfl, xg_r (i := 321) (by decide +kernel) rfl⟩
def mX3_keep : xMI := (yX3_keep, cX3_keep, 1, (some .int), 3)
theorem fX3_keep : xCal mX3_keep 0 := ⟨xg_r (i := 326) (by decide +kernel) rfl, xi_X3, by decide +kernel, by decide +kernel, by decide⟩
theorem vX3_keep : xVir mX3_keep := ⟨xg_r (i := 324) (by decide +kernel) rfl, xg_r (i := 325) (by decide +kernel) rfl⟩
def mX3_restore : xMI := (yX3_restore, cX3_restore, 1, (some .int), 3)
theorem fX3_restore : xCal mX3_restore 0 := ⟨xg_r (i := 331) (by decide +kernel) rfl, xi_X3, by decide +kernel, by decide +kernel, by decide⟩
theorem vX3_restore : xVir mX3_restore := ⟨xg_r (i := 329) (by decide +kernel) rfl, xg_r (i := 330) (by decide +kernel) rfl⟩
def mX3_total : xMI := (yX3_total, cX3_total, 2, (some .int), 4)
theorem fX3_total : xCal mX3_total 1 := ⟨xg_r (i := 335) (by decide +kernel) rfl, xi_X3, by decide +kernel, by decide +kernel, by decide⟩
theorem vX3_total : xVir mX3_total := ⟨xg_r (i := 333) (by decide +kernel) rfl, xg_r (i := 334) (by decide +kernel) rfl⟩
def mX1_rules : xMI := (yX1_rules, cX1_rules, 3, (some .int), 1)
theorem fX1_rules : xCal mX1_rules 0 := ⟨xg_r (i := 339) (by decide +kernel) rfl, xi_X1, by decide +kernel, by decide +kernel, by decide⟩
theorem vX1_rules : xVir mX1_rules := ⟨xg_r (i := 337) (by decide +kernel) rfl, xg_r (i := 338) (by decide +kernel) rfl⟩
def mX1_entriesNeverFound : xMI := (yX1_entriesNeverFound, cX1_entriesNeverFound, 4, (some .int), 3)
theorem fX1_entriesNeverFound : xCal mX1_entriesNeverFound 0 := ⟨xg_r (i := 343) (by decide +kernel) rfl, xi_X1, by decide +kernel, by decide +kernel, by decide⟩
theorem vX1_entriesNeverFound : xVir mX1_entriesNeverFound := ⟨xg_r (i := 341) (by decide +kernel) rfl, xg_r (i := 342) (by decide +kernel) rfl⟩
def mJ6_bitCount_0f7a4 : xMI := (yJ6_bitCount_0f7a4, cJ6_bitCount_0f7a4, 1, (some .int), 0)
theorem fJ6_bitCount_0f7a4 : xCal mJ6_bitCount_0f7a4 1 := ⟨xg_r (i := 347) (by decide +kernel) rfl, xi_J6, by decide +kernel, by decide +kernel, by decide⟩
theorem sJ6_bitCount_0f7a4 : xSta mJ6_bitCount_0f7a4 := xg_r (i := 346) (by decide +kernel) rfl
def mX1_keysFinding : xMI := (yX1_keysFinding, cX1_keysFinding, 4, (some .int), 2)
theorem fX1_keysFinding : xCal mX1_keysFinding 1 := ⟨xg_r (i := 354) (by decide +kernel) rfl, xi_X1, by decide +kernel, by decide +kernel, by decide⟩
theorem vX1_keysFinding : xVir mX1_keysFinding := ⟨xg_r (i := 352) (by decide +kernel) rfl, xg_r (i := 353) (by decide +kernel) rfl⟩
end
section
def mL_cell : xMI := (yL_cell, cL_cell, 2, (some .int), 0)
theorem fL_cell : xCal mL_cell 2 := ⟨xg_r (i := 357) (by decide +kernel) rfl, xi_L, by decide +kernel, by decide +kernel, by decide⟩
theorem sL_cell : xSta mL_cell := xg_r (i := 356) (by decide +kernel) rfl
def mL_seen : xMI := (yL_seen, cL_seen, 5, (some .long), 5)
theorem fL_seen : xCal mL_seen 1 := ⟨xg_r (i := 362) (by decide +kernel) rfl, xi_L, by decide +kernel, by decide +kernel, by decide⟩
theorem sL_seen : xSta mL_seen := xg_r (i := 361) (by decide +kernel) rfl
def mX3_ruleIn : xMI := (yX3_ruleIn, cX3_ruleIn, 2, (some .int), 2)
theorem fX3_ruleIn : xCal mX3_ruleIn 1 := ⟨xg_r (i := 368) (by decide +kernel) rfl, xi_X3, by decide +kernel, by decide +kernel, by decide⟩
theorem vX3_ruleIn : xVir mX3_ruleIn := ⟨xg_r (i := 366) (by decide +kernel) rfl, xg_r (i := 367) (by decide +kernel) rfl⟩
def mX3_maskIn : xMI := (yX3_maskIn, cX3_maskIn, 2, (some .int), 2)
theorem fX3_maskIn : xCal mX3_maskIn 1 := ⟨xg_r (i := 372) (by decide +kernel) rfl, xi_X3, by decide +kernel, by decide +kernel, by decide⟩
theorem vX3_maskIn : xVir mX3_maskIn := ⟨xg_r (i := 370) (by decide +kernel) rfl, xg_r (i := 371) (by decide +kernel) rfl⟩
def mX3_valueIn : xMI := (yX3_valueIn, cX3_valueIn, 2, (some .int), 2)
theorem fX3_valueIn : xCal mX3_valueIn 1 := ⟨xg_r (i := 376) (by decide +kernel) rfl, xi_X3, by decide +kernel, by decide +kernel, by decide⟩
theorem vX3_valueIn : xVir mX3_valueIn := ⟨xg_r (i := 374) (by decide +kernel) rfl, xg_r (i := 375) (by decide +kernel) rfl⟩
def mX3_action : xMI := (yX3_action, cX3_action, 2, (some .int), 2)
theorem fX3_action : xCal mX3_action 1 := ⟨xg_r (i := 381) (by decide +kernel) rfl, xi_X3, by decide +kernel, by decide +kernel, by decide⟩
theorem vX3_action : xVir mX3_action := ⟨xg_r (i := 379) (by decide +kernel) rfl, xg_r (i := 380) (by decide +kernel) rfl⟩
def mX1_slotHolding : xMI := (yX1_slotHolding, cX1_slotHolding, 4, (some .int), 1)
theorem fX1_slotHolding : xCal mX1_slotHolding 2 := ⟨xg_r (i := 385) (by decide +kernel) rfl, xi_X1, by decide +kernel, by decide +kernel, by decide⟩
theorem vX1_slotHolding : xVir mX1_slotHolding := ⟨xg_r (i := 383) (by decide +kernel) rfl, xg_r (i := 384) (by decide +kernel) rfl⟩
def mX3_rank : xMI := (yX3_rank, cX3_rank, 2, (some .int), 2)
theorem fX3_rank : xCal mX3_rank 1 := ⟨xg_r (i := 389) (by decide +kernel) rfl, xi_X3, by decide +kernel, by decide +kernel, by decide⟩
theorem vX3_rank : xVir mX3_rank := ⟨xg_r (i := 387) (by decide +kernel) rfl, xg_r (i := 388) (by decide +kernel) rfl⟩
def mX3_hits : xMI := (yX3_hits, cX3_hits, 2, (some .int), 2)
theorem fX3_hits : xCal mX3_hits 1 := ⟨xg_r (i := 393) (by decide +kernel) rfl, xi_X3, by decide +kernel, by decide +kernel, by decide⟩
theorem vX3_hits : xVir mX3_hits := ⟨xg_r (i := 391) (by decide +kernel) rfl, xg_r (i := 392) (by decide +kernel) rfl⟩
def mL_isInOrder : xMI := (yL_isInOrder, cL_isInOrder, 12, (some .boolean), 5)
theorem fL_isInOrder : xCal mL_isInOrder 1 := ⟨xg_r (i := 396) (by decide +kernel) rfl, xi_L, by decide +kernel, by decide +kernel, by decide⟩
theorem sL_isInOrder : xSta mL_isInOrder := xg_r (i := 395) (by decide +kernel) rfl
def mX3_parts : xMI := (yX3_parts, cX3_parts, 3, (some .int), 2)
theorem fX3_parts : xCal mX3_parts 1 := ⟨xg_r (i := 400) (by decide +kernel) rfl, xi_X3, by decide +kernel, by decide +kernel, by decide⟩
theorem vX3_parts : xVir mX3_parts := ⟨xg_r (i := 398) (by decide +kernel) rfl, xg_r (i := 399) (by decide +kernel) rfl⟩
end
section
def mX1_entriesOf : xMI := (yX1_entriesOf, cX1_entriesOf, 4, (some .int), 1)
theorem fX1_entriesOf : xCal mX1_entriesOf 1 := ⟨xg_r (i := 404) (by decide +kernel) rfl, xi_X1, by decide +kernel, by decide +kernel, by decide⟩
theorem vX1_entriesOf : xVir mX1_entriesOf := ⟨xg_r (i := 402) (by decide +kernel) rfl, xg_r (i := 403) (by decide +kernel) rfl⟩
def mX3_slotOf : xMI := (yX3_slotOf, cX3_slotOf, 4, (some .int), 2)
theorem fX3_slotOf : xCal mX3_slotOf 2 := ⟨xg_r (i := 408) (by decide +kernel) rfl, xi_X3, by decide +kernel, by decide +kernel, by decide⟩
theorem vX3_slotOf : xVir mX3_slotOf := ⟨xg_r (i := 406) (by decide +kernel) rfl, xg_r (i := 407) (by decide +kernel) rfl⟩
def mL_isCounted : xMI := (yL_isCounted, cL_isCounted, 7, (some .boolean), 6)
theorem fL_isCounted : xCal mL_isCounted 2 := ⟨xg_r (i := 411) (by decide +kernel) rfl, xi_L, by decide +kernel, by decide +kernel, by decide⟩
theorem sL_isCounted : xSta mL_isCounted := xg_r (i := 410) (by decide +kernel) rfl
def mX3_keysFor : xMI := (yX3_keysFor, cX3_keysFor, 2, (some .int), 3)
theorem fX3_keysFor : xCal mX3_keysFor 1 := ⟨xg_r (i := 415) (by decide +kernel) rfl, xi_X3, by decide +kernel, by decide +kernel, by decide⟩
theorem vX3_keysFor : xVir mX3_keysFor := ⟨xg_r (i := 413) (by decide +kernel) rfl, xg_r (i := 414) (by decide +kernel) rfl⟩
def mX3_find : xMI := (yX3_find, cX3_find, 3, (some .int), 2)
theorem fX3_find : xCal mX3_find 1 := ⟨xg_r (i := 420) (by decide +kernel) rfl, xi_X3, by decide +kernel, by decide +kernel, by decide⟩
theorem vX3_find : xVir mX3_find := ⟨xg_r (i := 418) (by decide +kernel) rfl, xg_r (i := 419) (by decide +kernel) rfl⟩
def mX3_power : xMI := (yX3_power, cX3_power, 2, (some .int), 5)
theorem fX3_power : xCal mX3_power 1 := ⟨xg_r (i := 424) (by decide +kernel) rfl, xi_X3, by decide +kernel, by decide +kernel, by decide⟩
theorem vX3_power : xVir mX3_power := ⟨xg_r (i := 422) (by decide +kernel) rfl, xg_r (i := 423) (by decide +kernel) rfl⟩
def mL_refuses : xMI := (yL_refuses, cL_refuses, 5, (some .boolean), 8)
theorem fL_refuses : xCal mL_refuses 2 := ⟨xg_r (i := 428) (by decide +kernel) rfl, xi_L, by decide +kernel, by decide +kernel, by decide⟩
theorem sL_refuses : xSta mL_refuses := xg_r (i := 427) (by decide +kernel) rfl
end
section
def mL_refusesAny : xMI := (yL_refusesAny, cL_refusesAny, 8, (some .boolean), 7)
theorem fL_refusesAny : xCal mL_refusesAny 2 := ⟨xg_r (i := 431) rfl rfl, xi_L, by decide +kernel, by decide +kernel, by decide⟩
theorem sL_refusesAny : xSta mL_refusesAny := xg_r (i := 430) (by decide +kernel) rfl
end
section
def mX3_addRule : xMI := (yX3_addRule, cX3_addRule, 5, (some .int), 5)
theorem fX3_addRule : xCal mX3_addRule 4 := ⟨xg_r (i := 435) (by decide +kernel) rfl, xi_X3, by decide +kernel, by decide +kernel, by decide⟩
theorem vX3_addRule : xVir mX3_addRule := ⟨xg_r (i := 433) (by decide +kernel) rfl, xg_r (i := 434) (by decide +kernel) rfl⟩
def mX3_isRank : xMI := (yX3_isRank, cX3_isRank, 1, (some .boolean), 0)
theorem fX3_isRank : xCal mX3_isRank 1 := ⟨xg_r (i := 438) (by decide +kernel) rfl, xi_X3, by decide +kernel, by decide +kernel, by decide⟩
theorem sX3_isRank : xSta mX3_isRank := xg_r (i := 437) (by decide +kernel) rfl
def mX3_isAction : xMI := (yX3_isAction, cX3_isAction, 1, (some .boolean), 0)
theorem fX3_isAction : xCal mX3_isAction 1 := ⟨xg_r (i := 441) (by decide +kernel) rfl, xi_X3, by decide +kernel, by decide +kernel, by decide⟩
theorem sX3_isAction : xSta mX3_isAction := xg_r (i := 440) (by decide +kernel) rfl
def mX3_addRange : xMI := (yX3_addRange, cX3_addRange, 5, (some .int), 5)
theorem fX3_addRange : xCal mX3_addRange 4 := ⟨xg_r (i := 445) (by decide +kernel) rfl, xi_X3, by decide +kernel, by decide +kernel, by decide⟩
theorem vX3_addRange : xVir mX3_addRange := ⟨xg_r (i := 443) (by decide +kernel) rfl, xg_r (i := 444) (by decide +kernel) rfl⟩
def mX3_isRange : xMI := (yX3_isRange, cX3_isRange, 2, (some .boolean), 1)
theorem fX3_isRange : xCal mX3_isRange 2 := ⟨xg_r (i := 448) (by decide +kernel) rfl, xi_X3, by decide +kernel, by decide +kernel, by decide⟩
theorem sX3_isRange : xSta mX3_isRange := xg_r (i := 447) (by decide +kernel) rfl
def mX3_blocksOf : xMI := (yX3_blocksOf, cX3_blocksOf, 4, (some .int), 1)
theorem fX3_blocksOf : xCal mX3_blocksOf 2 := ⟨xg_r (i := 451) (by decide +kernel) rfl, xi_X3, by decide +kernel, by decide +kernel, by decide⟩
theorem sX3_blocksOf : xSta mX3_blocksOf := xg_r (i := 450) (by decide +kernel) rfl
def mX3_blockSize : xMI := (yX3_blockSize, cX3_blockSize, 4, (some .int), 0)
theorem fX3_blockSize : xCal mX3_blockSize 2 := ⟨xg_r (i := 454) (by decide +kernel) rfl, xi_X3, by decide +kernel, by decide +kernel, by decide⟩
theorem sX3_blockSize : xSta mX3_blockSize := xg_r (i := 453) (by decide +kernel) rfl
def mX1_addBlocks : xMI := (yX1_addBlocks, cX1_addBlocks, 9, (some .int), 4)
theorem fX1_addBlocks : xCal mX1_addBlocks 4 := ⟨xg_r (i := 458) (by decide +kernel) rfl, xi_X1, by decide +kernel, by decide +kernel, by decide⟩
theorem vX1_addBlocks : xVir mX1_addBlocks := ⟨xg_r (i := 456) (by decide +kernel) rfl, xg_r (i := 457) (by decide +kernel) rfl⟩
def mX3_remove : xMI := (yX3_remove, cX3_remove, 3, (some .int), 3)
theorem fX3_remove : xCal mX3_remove 1 := ⟨xg_r (i := 463) (by decide +kernel) rfl, xi_X3, by decide +kernel, by decide +kernel, by decide⟩
theorem vX3_remove : xVir mX3_remove := ⟨xg_r (i := 461) (by decide +kernel) rfl, xg_r (i := 462) (by decide +kernel) rfl⟩
def mX1_dropEntriesOf : xMI := (yX1_dropEntriesOf, cX1_dropEntriesOf, 3, none, 0)
theorem fX1_dropEntriesOf : xCal mX1_dropEntriesOf 1 := ⟨xg_r (i := 467) (by decide +kernel) rfl, xi_X1, by decide +kernel, by decide +kernel, by decide⟩
theorem vX1_dropEntriesOf : xVir mX1_dropEntriesOf := ⟨xg_r (i := 465) (by decide +kernel) rfl, xg_r (i := 466) (by decide +kernel) rfl⟩
def mX3_setPlacing : xMI := (yX3_setPlacing, cX3_setPlacing, 3, (some .int), 3)
theorem fX3_setPlacing : xCal mX3_setPlacing 1 := ⟨xg_r (i := 471) (by decide +kernel) rfl, xi_X3, by decide +kernel, by decide +kernel, by decide⟩
theorem vX3_setPlacing : xVir mX3_setPlacing := ⟨xg_r (i := 469) (by decide +kernel) rfl, xg_r (i := 470) (by decide +kernel) rfl⟩
def mX3_wouldMove : xMI := (yX3_wouldMove, cX3_wouldMove, 2, (some .int), 4)
theorem fX3_wouldMove : xCal mX3_wouldMove 1 := ⟨xg_r (i := 475) (by decide +kernel) rfl, xi_X3, by decide +kernel, by decide +kernel, by decide⟩
theorem vX3_wouldMove : xVir mX3_wouldMove := ⟨xg_r (i := 473) (by decide +kernel) rfl, xg_r (i := 474) (by decide +kernel) rfl⟩
def mX1_movesFor : xMI := (yX1_movesFor, cX1_movesFor, 4, (some .int), 2)
theorem fX1_movesFor : xCal mX1_movesFor 1 := ⟨xg_r (i := 479) (by decide +kernel) rfl, xi_X1, by decide +kernel, by decide +kernel, by decide⟩
theorem vX1_movesFor : xVir mX1_movesFor := ⟨xg_r (i := 477) (by decide +kernel) rfl, xg_r (i := 478) (by decide +kernel) rfl⟩
def mJ9_min_7cf53 : xMI := (yJ9_min_7cf53, cJ9_min_7cf53, 2, (some .int), 0)
theorem fJ9_min_7cf53 : xCal mJ9_min_7cf53 2 := ⟨xg_r (i := 482) (by decide +kernel) rfl, xi_J9, by decide +kernel, by decide +kernel, by decide⟩
theorem sJ9_min_7cf53 : xSta mJ9_min_7cf53 := xg_r (i := 481) (by decide +kernel) rfl
def mX3_entriesFor : xMI := (yX3_entriesFor, cX3_entriesFor, 3, (some .int), 2)
theorem fX3_entriesFor : xCal mX3_entriesFor 2 := ⟨xg_r (i := 486) (by decide +kernel) rfl, xi_X3, by decide +kernel, by decide +kernel, by decide⟩
theorem vX3_entriesFor : xVir mX3_entriesFor := ⟨xg_r (i := 484) (by decide +kernel) rfl, xg_r (i := 485) (by decide +kernel) rfl⟩
def mX3_sortIn : xMI := (yX3_sortIn, cX3_sortIn, 3, (some .int), 2)
theorem fX3_sortIn : xCal mX3_sortIn 1 := ⟨xg_r (i := 490) (by decide +kernel) rfl, xi_X3, by decide +kernel, by decide +kernel, by decide⟩
theorem vX3_sortIn : xVir mX3_sortIn := ⟨xg_r (i := 488) (by decide +kernel) rfl, xg_r (i := 489) (by decide +kernel) rfl⟩
def mX3_sortOfMask : xMI := (yX3_sortOfMask, cX3_sortOfMask, 2, (some .int), 0)
theorem fX3_sortOfMask : xCal mX3_sortOfMask 1 := ⟨xg_r (i := 493) (by decide +kernel) rfl, xi_X3, by decide +kernel, by decide +kernel, by decide⟩
theorem sX3_sortOfMask : xSta mX3_sortOfMask := xg_r (i := 492) (by decide +kernel) rfl
def mX3_hiddenBy : xMI := (yX3_hiddenBy, cX3_hiddenBy, 3, (some .int), 2)
theorem fX3_hiddenBy : xCal mX3_hiddenBy 1 := ⟨xg_r (i := 497) (by decide +kernel) rfl, xi_X3, by decide +kernel, by decide +kernel, by decide⟩
theorem vX3_hiddenBy : xVir mX3_hiddenBy := ⟨xg_r (i := 495) (by decide +kernel) rfl, xg_r (i := 496) (by decide +kernel) rfl⟩
def mX1_slotHiding : xMI := (yX1_slotHiding, cX1_slotHiding, 5, (some .int), 1)
theorem fX1_slotHiding : xCal mX1_slotHiding 1 := ⟨xg_r (i := 501) (by decide +kernel) rfl, xi_X1, by decide +kernel, by decide +kernel, by decide⟩
theorem vX1_slotHiding : xVir mX1_slotHiding := ⟨xg_r (i := 499) (by decide +kernel) rfl, xg_r (i := 500) (by decide +kernel) rfl⟩
def mX3_filterMask : xMI := (yX3_filterMask, cX3_filterMask, 2, (some .int), 3)
theorem fX3_filterMask : xCal mX3_filterMask 1 := ⟨xg_r (i := 505) (by decide +kernel) rfl, xi_X3, by decide +kernel, by decide +kernel, by decide⟩
theorem vX3_filterMask : xVir mX3_filterMask := ⟨xg_r (i := 503) (by decide +kernel) rfl, xg_r (i := 504) (by decide +kernel) rfl⟩
def mX3_isBank : xMI := (yX3_isBank, cX3_isBank, 1, (some .boolean), 0)
theorem fX3_isBank : xCal mX3_isBank 1 := ⟨xg_r (i := 508) (by decide +kernel) rfl, xi_X3, by decide +kernel, by decide +kernel, by decide⟩
theorem sX3_isBank : xSta mX3_isBank := xg_r (i := 507) (by decide +kernel) rfl
def mX3_filterValue : xMI := (yX3_filterValue, cX3_filterValue, 2, (some .int), 4)
theorem fX3_filterValue : xCal mX3_filterValue 1 := ⟨xg_r (i := 513) (by decide +kernel) rfl, xi_X3, by decide +kernel, by decide +kernel, by decide⟩
theorem vX3_filterValue : xVir mX3_filterValue := ⟨xg_r (i := 511) (by decide +kernel) rfl, xg_r (i := 512) (by decide +kernel) rfl⟩
def mL_act : xMI := (yL_act, cL_act, 7, (some .int), 8)
theorem fL_act : xCal mL_act 2 := ⟨xg_r (i := 517) (by decide +kernel) rfl, xi_L, by decide +kernel, by decide +kernel, by decide⟩
theorem sL_act : xSta mL_act := xg_r (i := 516) (by decide +kernel) rfl
def mL_adds : xMI := (yL_adds, cL_adds, 7, (some .int), 6)
theorem fL_adds : xCal mL_adds 2 := ⟨xg_r (i := 520) (by decide +kernel) rfl, xi_L, by decide +kernel, by decide +kernel, by decide⟩
theorem sL_adds : xSta mL_adds := xg_r (i := 519) (by decide +kernel) rfl
def mL_addsRange : xMI := (yL_addsRange, cL_addsRange, 7, (some .int), 6)
theorem fL_addsRange : xCal mL_addsRange 2 := ⟨xg_r (i := 523) (by decide +kernel) rfl, xi_L, by decide +kernel, by decide +kernel, by decide⟩
theorem sL_addsRange : xSta mL_addsRange := xg_r (i := 522) (by decide +kernel) rfl
def mL_rearranges : xMI := (yL_rearranges, cL_rearranges, 7, (some .int), 6)
theorem fL_rearranges : xCal mL_rearranges 2 := ⟨xg_r (i := 526) (by decide +kernel) rfl, xi_L, by decide +kernel, by decide +kernel, by decide⟩
theorem sL_rearranges : xSta mL_rearranges := xg_r (i := 525) (by decide +kernel) rfl
def mL_searches : xMI := (yL_searches, cL_searches, 8, (some .int), 7)
theorem fL_searches : xCal mL_searches 2 := ⟨xg_r (i := 529) (by decide +kernel) rfl, xi_L, by decide +kernel, by decide +kernel, by decide⟩
theorem sL_searches : xSta mL_searches := xg_r (i := 528) (by decide +kernel) rfl
end
section
theorem lkL_119 : Cond.methodLink RL 119 yX3_init ∈ gw := xg_r (i := 9) (by decide +kernel) rfl
theorem lkX3_1 : Cond.methodLink RX3 1 objectInit ∈ gw := xg_r (i := 12) (by decide +kernel) rfl
theorem lkX3_9 : Cond.methodLink RX3 9 yX1_init ∈ gw := xg_r (i := 17) (by decide +kernel) rfl
theorem lkX1_3 : Cond.methodLink RX1 3 objectInit ∈ gw := xg_r (i := 20) (by decide +kernel) rfl
theorem lkX3_21 : Cond.methodLink RX3 21 yX0_init ∈ gw := xg_r (i := 72) (by decide +kernel) rfl
theorem lkX0_1 : Cond.methodLink RX0 1 objectInit ∈ gw := xg_r (i := 75) (by decide +kernel) rfl
theorem lkX0_22 : Cond.methodLink RX0 22 yX1_init ∈ gw := xg_r (i := 78) (by decide +kernel) rfl
theorem lkX3_28 : Cond.methodLinkNest RX3 28 yX2_init "TernaryMatcher" ∈ xnw := xn_r (i := 92) (by decide +kernel) rfl
theorem lkX2_5 : Cond.methodLink RX2 5 objectInit ∈ gw := xg_r (i := 95) (by decide +kernel) rfl
theorem lkL_102 : Cond.methodLink RL 102 yX3_compact ∈ gw := xg_r (i := 143) (by decide +kernel) rfl
theorem lkX3_82 : Cond.methodLink RX3 82 yX3_rearrange ∈ gw := xg_r (i := 147) (by decide +kernel) rfl
theorem lkX3_201 : Cond.methodLink RX3 201 yX1_entriesOutOfShare ∈ gw := xg_r (i := 151) (by decide +kernel) rfl
theorem lkX1_53 : Cond.methodLink RX1 53 yX1_holdsEntry ∈ gw := xg_r (i := 155) (by decide +kernel) rfl
theorem lkX1_105 : Cond.methodLink RX1 105 yX1_firstSlotOfShare ∈ gw := xg_r (i := 159) (by decide +kernel) rfl
theorem lkX3_51 : Cond.methodLink RX3 51 yX0_record ∈ gw := xg_r (i := 162) (by decide +kernel) rfl
theorem lkX0_23 : Cond.methodLink RX0 23 yJ9_floorMod_7cf53 ∈ gw := xg_r (i := 166) (by decide +kernel) rfl
theorem lkX0_29 : Cond.methodLinkNest RX0 29 yX3_copyState "TernaryMatcher" ∈ xnw := xn_r (i := 169) (by decide +kernel) rfl
theorem lkX3_210 : Cond.methodLink RX3 210 yX1_copyFrom ∈ gw := xg_r (i := 172) (by decide +kernel) rfl
theorem lkX3_204 : Cond.methodLink RX3 204 yX1_moveIntoShares ∈ gw := xg_r (i := 176) (by decide +kernel) rfl
theorem lkX1_108 : Cond.methodLink RX1 108 yX1_moveToFront ∈ gw := xg_r (i := 180) (by decide +kernel) rfl
theorem lkX1_102 : Cond.methodLink RX1 102 yX1_moveEntry ∈ gw := xg_r (i := 184) (by decide +kernel) rfl
theorem lkX1_49 : Cond.methodLinkNest RX1 49 yX3_isSlot "TernaryMatcher" ∈ xnw := xn_r (i := 188) (by decide +kernel) rfl
theorem lkL_98 : Cond.methodLink RL 98 yX3_spread ∈ gw := xg_r (i := 191) (by decide +kernel) rfl
theorem lkX3_85 : Cond.methodLink RX3 85 yX1_entries ∈ gw := xg_r (i := 195) (by decide +kernel) rfl
theorem lkX1_56 : Cond.methodLink RX1 56 yX1_entriesInBank ∈ gw := xg_r (i := 199) (by decide +kernel) rfl
theorem lkL_69 : Cond.methodLink RL 69 yX3_search ∈ gw := xg_r (i := 203) (by decide +kernel) rfl
theorem lkX3_37 : Cond.methodLink RX3 37 yX3_isKey ∈ gw := xg_r (i := 207) (by decide +kernel) rfl
theorem lkX3_88 : Cond.methodLink RX3 88 yX1_slotFoundBy ∈ gw := xg_r (i := 210) (by decide +kernel) rfl
theorem lkX3_91 : Cond.methodLink RX3 91 yX1_countSearch ∈ gw := xg_r (i := 214) (by decide +kernel) rfl
theorem lkX1_119 : Cond.methodLink RX1 119 yX1_powerFor ∈ gw := xg_r (i := 218) (by decide +kernel) rfl
theorem lkX1_122 : Cond.methodLink RX1 122 yX1_commonMask ∈ gw := xg_r (i := 222) (by decide +kernel) rfl
theorem lkX1_128 : Cond.methodLink RX1 128 yX1_firstEntryOfBank ∈ gw := xg_r (i := 226) (by decide +kernel) rfl
theorem lkX1_125 : Cond.methodLink RX1 125 yX1_commonValue ∈ gw := xg_r (i := 230) (by decide +kernel) rfl
theorem lkX3_99 : Cond.methodLink RX3 99 yX1_told ∈ gw := xg_r (i := 234) (by decide +kernel) rfl
theorem lkL_126 : Cond.methodLink RL 126 yX3_addText ∈ gw := xg_r (i := 238) (by decide +kernel) rfl
theorem lkX3_110 : Cond.methodLink RX3 110 yX2_readRules ∈ gw := xg_r (i := 242) (by decide +kernel) rfl
theorem lkX2_37 : Cond.methodLink RX2 37 yX2_readEntry ∈ gw := xg_r (i := 246) (by decide +kernel) rfl
theorem lkX2_51 : Cond.methodLink RX2 51 yX2_sign ∈ gw := xg_r (i := 250) (by decide +kernel) rfl
theorem lkX2_41 : Cond.methodLink RX2 41 yX2_skip ∈ gw := xg_r (i := 254) (by decide +kernel) rfl
theorem lkX2_45 : Cond.methodLink RX2 45 yX2_readRank ∈ gw := xg_r (i := 258) (by decide +kernel) rfl
theorem lkX2_55 : Cond.methodLink RX2 55 yX2_digit ∈ gw := xg_r (i := 262) (by decide +kernel) rfl
theorem lkX2_48 : Cond.methodLink RX2 48 yX2_readAction ∈ gw := xg_r (i := 266) (by decide +kernel) rfl
theorem lkX3_47 : Cond.methodLink RX3 47 yX1_freeSlots ∈ gw := xg_r (i := 270) (by decide +kernel) rfl
theorem lkX1_60 : Cond.methodLink RX1 60 yX1_entries ∈ gw := xg_r (i := 274) (by decide +kernel) rfl
theorem lkX3_55 : Cond.methodLink RX3 55 yX1_addSingle ∈ gw := xg_r (i := 275) (by decide +kernel) rfl
theorem lkX1_64 : Cond.methodLink RX1 64 yX1_openSlot ∈ gw := xg_r (i := 279) (by decide +kernel) rfl
theorem lkX1_75 : Cond.methodLink RX1 75 yX1_lastSlotUpTo ∈ gw := xg_r (i := 283) (by decide +kernel) rfl
theorem lkX1_78 : Cond.methodLink RX1 78 yX1_firstSlotBeyond ∈ gw := xg_r (i := 287) (by decide +kernel) rfl
theorem lkX1_81 : Cond.methodLink RX1 81 yX1_placeBetween ∈ gw := xg_r (i := 291) (by decide +kernel) rfl
theorem lkX1_84 : Cond.methodLink RX1 84 yX1_movesUpFrom ∈ gw := xg_r (i := 295) (by decide +kernel) rfl
theorem lkX1_87 : Cond.methodLink RX1 87 yX1_movesDownFrom ∈ gw := xg_r (i := 299) (by decide +kernel) rfl
theorem lkX1_90 : Cond.methodLink RX1 90 yX1_moveUp ∈ gw := xg_r (i := 303) (by decide +kernel) rfl
theorem lkX1_94 : Cond.methodLink RX1 94 yX1_moveDown ∈ gw := xg_r (i := 307) (by decide +kernel) rfl
theorem lkX1_67 : Cond.methodLink RX1 67 yX1_fill ∈ gw := xg_r (i := 311) (by decide +kernel) rfl
theorem lkL_120 : Cond.methodLink RL 120 yX3_undo ∈ gw := xg_r (i := 315) (by decide +kernel) rfl
theorem lkX3_131 : Cond.methodLink RX3 131 yX0_takeLatestInto ∈ gw := xg_r (i := 319) (by decide +kernel) rfl
theorem lkL_132 : Cond.methodLink RL 132 yX3_keep ∈ gw := xg_r (i := 323) (by decide +kernel) rfl
theorem lkX3_134 : Cond.methodLink RX3 134 yX3_copyState ∈ gw := xg_r (i := 327) (by decide +kernel) rfl
theorem lkL_123 : Cond.methodLink RL 123 yX3_restore ∈ gw := xg_r (i := 328) (by decide +kernel) rfl
theorem lkL_13 : Cond.methodLink RL 13 yX3_total ∈ gw := xg_r (i := 332) (by decide +kernel) rfl
theorem lkX3_183 : Cond.methodLink RX3 183 yX1_rules ∈ gw := xg_r (i := 336) (by decide +kernel) rfl
theorem lkX3_198 : Cond.methodLink RX3 198 yX1_entriesNeverFound ∈ gw := xg_r (i := 340) (by decide +kernel) rfl
theorem lkX1_111 : Cond.methodLink RX1 111 yX1_slotFoundBy ∈ gw := xg_r (i := 344) (by decide +kernel) rfl
theorem lkX1_114 : Cond.methodLink RX1 114 yJ6_bitCount_0f7a4 ∈ gw := xg_r (i := 345) (by decide +kernel) rfl
theorem lkX3_177 : Cond.methodLink RX3 177 yX1_keysFinding ∈ gw := xg_r (i := 351) (by decide +kernel) rfl
theorem lkL_135 : Cond.methodLink RL 135 yL_cell ∈ gw := xg_r (i := 355) (by decide +kernel) rfl
theorem lkL_90 : Cond.methodLink RL 90 yL_seen ∈ gw := xg_r (i := 360) (by decide +kernel) rfl
theorem lkL_19 : Cond.methodLink RL 19 yX3_ruleIn ∈ gw := xg_r (i := 365) (by decide +kernel) rfl
theorem lkL_22 : Cond.methodLink RL 22 yX3_maskIn ∈ gw := xg_r (i := 369) (by decide +kernel) rfl
theorem lkL_25 : Cond.methodLink RL 25 yX3_valueIn ∈ gw := xg_r (i := 373) (by decide +kernel) rfl
theorem lkL_29 : Cond.methodLink RL 29 yX3_action ∈ gw := xg_r (i := 378) (by decide +kernel) rfl
theorem lkX3_150 : Cond.methodLink RX3 150 yX1_slotHolding ∈ gw := xg_r (i := 382) (by decide +kernel) rfl
theorem lkL_32 : Cond.methodLink RL 32 yX3_rank ∈ gw := xg_r (i := 386) (by decide +kernel) rfl
theorem lkL_35 : Cond.methodLink RL 35 yX3_hits ∈ gw := xg_r (i := 390) (by decide +kernel) rfl
theorem lkL_142 : Cond.methodLink RL 142 yL_isInOrder ∈ gw := xg_r (i := 394) (by decide +kernel) rfl
theorem lkL_38 : Cond.methodLink RL 38 yX3_parts ∈ gw := xg_r (i := 397) (by decide +kernel) rfl
theorem lkX3_70 : Cond.methodLink RX3 70 yX1_entriesOf ∈ gw := xg_r (i := 401) (by decide +kernel) rfl
theorem lkL_41 : Cond.methodLink RL 41 yX3_slotOf ∈ gw := xg_r (i := 405) (by decide +kernel) rfl
theorem lkL_146 : Cond.methodLink RL 146 yL_isCounted ∈ gw := xg_r (i := 409) (by decide +kernel) rfl
theorem lkL_47 : Cond.methodLink RL 47 yX3_keysFor ∈ gw := xg_r (i := 412) (by decide +kernel) rfl
theorem lkX3_171 : Cond.methodLink RX3 171 yX3_isSlot ∈ gw := xg_r (i := 416) (by decide +kernel) rfl
theorem lkL_50 : Cond.methodLink RL 50 yX3_find ∈ gw := xg_r (i := 417) (by decide +kernel) rfl
theorem lkL_53 : Cond.methodLink RL 53 yX3_power ∈ gw := xg_r (i := 421) (by decide +kernel) rfl
theorem lkX3_159 : Cond.methodLink RX3 159 yX1_powerFor ∈ gw := xg_r (i := 425) (by decide +kernel) rfl
theorem lkL_129 : Cond.methodLink RL 129 yL_refuses ∈ gw := xg_r (i := 426) (by decide +kernel) rfl
theorem lkL_94 : Cond.methodLink RL 94 yL_refusesAny ∈ gw := xg_r (i := 429) (by decide +kernel) rfl
theorem lkL_56 : Cond.methodLink RL 56 yX3_addRule ∈ gw := xg_r (i := 432) (by decide +kernel) rfl
theorem lkX3_41 : Cond.methodLink RX3 41 yX3_isRank ∈ gw := xg_r (i := 436) (by decide +kernel) rfl
theorem lkX3_44 : Cond.methodLink RX3 44 yX3_isAction ∈ gw := xg_r (i := 439) (by decide +kernel) rfl
theorem lkL_60 : Cond.methodLink RL 60 yX3_addRange ∈ gw := xg_r (i := 442) (by decide +kernel) rfl
theorem lkX3_59 : Cond.methodLink RX3 59 yX3_isRange ∈ gw := xg_r (i := 446) (by decide +kernel) rfl
theorem lkX3_63 : Cond.methodLink RX3 63 yX3_blocksOf ∈ gw := xg_r (i := 449) (by decide +kernel) rfl
theorem lkX3_207 : Cond.methodLink RX3 207 yX3_blockSize ∈ gw := xg_r (i := 452) (by decide +kernel) rfl
theorem lkX3_67 : Cond.methodLink RX3 67 yX1_addBlocks ∈ gw := xg_r (i := 455) (by decide +kernel) rfl
theorem lkX1_71 : Cond.methodLinkNest RX1 71 yX3_blockSize "TernaryMatcher" ∈ xnw := xn_r (i := 459) (by decide +kernel) rfl
theorem lkL_63 : Cond.methodLink RL 63 yX3_remove ∈ gw := xg_r (i := 460) (by decide +kernel) rfl
theorem lkX3_74 : Cond.methodLink RX3 74 yX1_dropEntriesOf ∈ gw := xg_r (i := 464) (by decide +kernel) rfl
theorem lkL_66 : Cond.methodLink RL 66 yX3_setPlacing ∈ gw := xg_r (i := 468) (by decide +kernel) rfl
theorem lkL_72 : Cond.methodLink RL 72 yX3_wouldMove ∈ gw := xg_r (i := 472) (by decide +kernel) rfl
theorem lkX3_180 : Cond.methodLink RX3 180 yX1_movesFor ∈ gw := xg_r (i := 476) (by decide +kernel) rfl
theorem lkX1_97 : Cond.methodLink RX1 97 yJ9_min_7cf53 ∈ gw := xg_r (i := 480) (by decide +kernel) rfl
theorem lkL_75 : Cond.methodLink RL 75 yX3_entriesFor ∈ gw := xg_r (i := 483) (by decide +kernel) rfl
theorem lkL_78 : Cond.methodLink RL 78 yX3_sortIn ∈ gw := xg_r (i := 487) (by decide +kernel) rfl
theorem lkX3_147 : Cond.methodLink RX3 147 yX3_sortOfMask ∈ gw := xg_r (i := 491) (by decide +kernel) rfl
theorem lkL_81 : Cond.methodLink RL 81 yX3_hiddenBy ∈ gw := xg_r (i := 494) (by decide +kernel) rfl
theorem lkX3_174 : Cond.methodLink RX3 174 yX1_slotHiding ∈ gw := xg_r (i := 498) (by decide +kernel) rfl
theorem lkL_84 : Cond.methodLink RL 84 yX3_filterMask ∈ gw := xg_r (i := 502) (by decide +kernel) rfl
theorem lkX3_162 : Cond.methodLink RX3 162 yX3_isBank ∈ gw := xg_r (i := 506) (by decide +kernel) rfl
theorem lkX3_165 : Cond.methodLink RX3 165 yX1_commonMask ∈ gw := xg_r (i := 509) (by decide +kernel) rfl
theorem lkL_87 : Cond.methodLink RL 87 yX3_filterValue ∈ gw := xg_r (i := 510) (by decide +kernel) rfl
theorem lkX3_168 : Cond.methodLink RX3 168 yX1_commonValue ∈ gw := xg_r (i := 514) (by decide +kernel) rfl
theorem lkL_139 : Cond.methodLink RL 139 yL_act ∈ gw := xg_r (i := 515) (by decide +kernel) rfl
theorem lkL_105 : Cond.methodLink RL 105 yL_adds ∈ gw := xg_r (i := 518) (by decide +kernel) rfl
theorem lkL_109 : Cond.methodLink RL 109 yL_addsRange ∈ gw := xg_r (i := 521) (by decide +kernel) rfl
theorem lkL_112 : Cond.methodLink RL 112 yL_rearranges ∈ gw := xg_r (i := 524) (by decide +kernel) rfl
theorem lkL_116 : Cond.methodLink RL 116 yL_searches ∈ gw := xg_r (i := 527) (by decide +kernel) rfl
theorem flX1_9 : Cond.fieldLink RX1 9 RX1 "ruleAt" "[I" ∈ gw := xg_r (i := 21) (by decide +kernel) rfl
theorem flX3_138 : Cond.fieldLinkNest RX3 138 RX1 "ruleAt" "[I" "TernaryMatcher" ∈ xnw := xn_r (i := 22) (by decide +kernel) rfl
theorem flX1_15 : Cond.fieldLink RX1 15 RX1 "partAt" "[I" ∈ gw := xg_r (i := 23) (by decide +kernel) rfl
theorem flX1_18 : Cond.fieldLink RX1 18 RX1 "maskAt" "[I" ∈ gw := xg_r (i := 24) (by decide +kernel) rfl
theorem flX3_141 : Cond.fieldLinkNest RX3 141 RX1 "maskAt" "[I" "TernaryMatcher" ∈ xnw := xn_r (i := 25) (by decide +kernel) rfl
theorem flX1_21 : Cond.fieldLink RX1 21 RX1 "valueAt" "[I" ∈ gw := xg_r (i := 26) (by decide +kernel) rfl
theorem flX3_144 : Cond.fieldLinkNest RX3 144 RX1 "valueAt" "[I" "TernaryMatcher" ∈ xnw := xn_r (i := 27) (by decide +kernel) rfl
theorem flX1_24 : Cond.fieldLink RX1 24 RX1 "rankAt" "[I" ∈ gw := xg_r (i := 28) (by decide +kernel) rfl
theorem flX3_153 : Cond.fieldLinkNest RX3 153 RX1 "rankAt" "[I" "TernaryMatcher" ∈ xnw := xn_r (i := 29) (by decide +kernel) rfl
theorem flX1_27 : Cond.fieldLink RX1 27 RX1 "actionAt" "[I" ∈ gw := xg_r (i := 30) (by decide +kernel) rfl
theorem flX3_95 : Cond.fieldLinkNest RX3 95 RX1 "actionAt" "[I" "TernaryMatcher" ∈ xnw := xn_r (i := 31) (by decide +kernel) rfl
theorem flX1_30 : Cond.fieldLink RX1 30 RX1 "hitsAt" "[I" ∈ gw := xg_r (i := 32) (by decide +kernel) rfl
theorem flX3_156 : Cond.fieldLinkNest RX3 156 RX1 "hitsAt" "[I" "TernaryMatcher" ∈ xnw := xn_r (i := 33) (by decide +kernel) rfl
theorem flX1_33 : Cond.fieldLink RX1 33 RX1 "placing" "I" ∈ gw := xg_r (i := 34) (by decide +kernel) rfl
theorem flX3_78 : Cond.fieldLinkNest RX3 78 RX1 "placing" "I" "TernaryMatcher" ∈ xnw := xn_r (i := 35) (by decide +kernel) rfl
theorem flX1_37 : Cond.fieldLink RX1 37 RX1 "rulesAdded" "I" ∈ gw := xg_r (i := 36) (by decide +kernel) rfl
theorem flX3_186 : Cond.fieldLinkNest RX3 186 RX1 "rulesAdded" "I" "TernaryMatcher" ∈ xnw := xn_r (i := 37) (by decide +kernel) rfl
theorem flX1_40 : Cond.fieldLink RX1 40 RX1 "entriesMoved" "I" ∈ gw := xg_r (i := 38) (by decide +kernel) rfl
theorem flX3_189 : Cond.fieldLinkNest RX3 189 RX1 "entriesMoved" "I" "TernaryMatcher" ∈ xnw := xn_r (i := 39) (by decide +kernel) rfl
theorem flX1_43 : Cond.fieldLink RX1 43 RX1 "searches" "I" ∈ gw := xg_r (i := 40) (by decide +kernel) rfl
theorem flX3_192 : Cond.fieldLinkNest RX3 192 RX1 "searches" "I" "TernaryMatcher" ∈ xnw := xn_r (i := 41) (by decide +kernel) rfl
theorem flX1_46 : Cond.fieldLink RX1 46 RX1 "powers" "I" ∈ gw := xg_r (i := 42) (by decide +kernel) rfl
theorem flX3_195 : Cond.fieldLinkNest RX3 195 RX1 "powers" "I" "TernaryMatcher" ∈ xnw := xn_r (i := 43) (by decide +kernel) rfl
theorem flX0_11 : Cond.fieldLink RX0 11 RX0 "states" "[LTernaryMatcher$Memory;" ∈ gw := xg_r (i := 79) (by decide +kernel) rfl
theorem flX0_15 : Cond.fieldLink RX0 15 RX0 "oldest" "I" ∈ gw := xg_r (i := 80) (by decide +kernel) rfl
theorem flX0_19 : Cond.fieldLink RX0 19 RX0 "count" "I" ∈ gw := xg_r (i := 81) (by decide +kernel) rfl
theorem flX3_128 : Cond.fieldLinkNest RX3 128 RX0 "count" "I" "TernaryMatcher" ∈ xnw := xn_r (i := 82) (by decide +kernel) rfl
theorem flX2_11 : Cond.fieldLink RX2 11 RX2 "signs" "[I" ∈ gw := xg_r (i := 96) (by decide +kernel) rfl
theorem flX2_15 : Cond.fieldLink RX2 15 RX2 "length" "I" ∈ gw := xg_r (i := 97) (by decide +kernel) rfl
theorem flX3_107 : Cond.fieldLinkNest RX3 107 RX2 "length" "I" "TernaryMatcher" ∈ xnw := xn_r (i := 98) (by decide +kernel) rfl
theorem flX2_19 : Cond.fieldLink RX2 19 RX2 "at" "I" ∈ gw := xg_r (i := 99) (by decide +kernel) rfl
theorem flX2_22 : Cond.fieldLink RX2 22 RX2 "rulesRead" "I" ∈ gw := xg_r (i := 100) (by decide +kernel) rfl
theorem flX3_113 : Cond.fieldLinkNest RX3 113 RX2 "rulesRead" "I" "TernaryMatcher" ∈ xnw := xn_r (i := 101) (by decide +kernel) rfl
theorem flX2_25 : Cond.fieldLink RX2 25 RX2 "masks" "[I" ∈ gw := xg_r (i := 102) (by decide +kernel) rfl
theorem flX3_119 : Cond.fieldLinkNest RX3 119 RX2 "masks" "[I" "TernaryMatcher" ∈ xnw := xn_r (i := 103) (by decide +kernel) rfl
theorem flX2_28 : Cond.fieldLink RX2 28 RX2 "values" "[I" ∈ gw := xg_r (i := 104) (by decide +kernel) rfl
theorem flX3_116 : Cond.fieldLinkNest RX3 116 RX2 "values" "[I" "TernaryMatcher" ∈ xnw := xn_r (i := 105) (by decide +kernel) rfl
theorem flX2_31 : Cond.fieldLink RX2 31 RX2 "ranks" "[I" ∈ gw := xg_r (i := 106) (by decide +kernel) rfl
theorem flX3_122 : Cond.fieldLinkNest RX3 122 RX2 "ranks" "[I" "TernaryMatcher" ∈ xnw := xn_r (i := 107) (by decide +kernel) rfl
theorem flX2_34 : Cond.fieldLink RX2 34 RX2 "actions" "[I" ∈ gw := xg_r (i := 108) (by decide +kernel) rfl
theorem flX3_125 : Cond.fieldLinkNest RX3 125 RX2 "actions" "[I" "TernaryMatcher" ∈ xnw := xn_r (i := 109) (by decide +kernel) rfl
theorem flX3_10 : Cond.fieldLink RX3 10 RX3 "memory" "LTernaryMatcher$Memory;" ∈ gw := xg_r (i := 127) (by decide +kernel) rfl
theorem flX3_16 : Cond.fieldLink RX3 16 RX3 "snapshot" "LTernaryMatcher$Memory;" ∈ gw := xg_r (i := 128) (by decide +kernel) rfl
theorem flX3_22 : Cond.fieldLink RX3 22 RX3 "history" "LTernaryMatcher$History;" ∈ gw := xg_r (i := 129) (by decide +kernel) rfl
theorem flX3_29 : Cond.fieldLink RX3 29 RX3 "text" "LTernaryMatcher$RuleText;" ∈ gw := xg_r (i := 130) (by decide +kernel) rfl
theorem flX3_33 : Cond.fieldLink RX3 33 RX3 "snapshotTaken" "Z" ∈ gw := xg_r (i := 131) (by decide +kernel) rfl
theorem iwX0 : ∀ w ∈ u_ws RX0 TX0 3, w ∈ gw := List.forall_mem_cons.mpr ⟨xg_r (i := 83) (by decide +kernel) rfl, List.forall_mem_cons.mpr ⟨xg_r (i := 85) (by decide +kernel) rfl, List.forall_mem_cons.mpr ⟨xg_r (i := 87) (by decide +kernel) rfl, fun _ h => absurd h List.not_mem_nil⟩⟩⟩
theorem iwX1 : ∀ w ∈ u_ws RX1 TX1 12, w ∈ gw := List.forall_mem_cons.mpr ⟨xg_r (i := 44) (by decide +kernel) rfl, List.forall_mem_cons.mpr ⟨xg_r (i := 46) (by decide +kernel) rfl, List.forall_mem_cons.mpr ⟨xg_r (i := 48) (by decide +kernel) rfl, List.forall_mem_cons.mpr ⟨xg_r (i := 50) (by decide +kernel) rfl, List.forall_mem_cons.mpr ⟨xg_r (i := 52) (by decide +kernel) rfl, List.forall_mem_cons.mpr ⟨xg_r (i := 54) (by decide +kernel) rfl, List.forall_mem_cons.mpr ⟨xg_r (i := 56) (by decide +kernel) rfl, List.forall_mem_cons.mpr ⟨xg_r (i := 58) (by decide +kernel) rfl, List.forall_mem_cons.mpr ⟨xg_r (i := 60) (by decide +kernel) rfl, List.forall_mem_cons.mpr ⟨xg_r (i := 62) (by decide +kernel) rfl, List.forall_mem_cons.mpr ⟨xg_r (i := 64) (by decide +kernel) rfl, List.forall_mem_cons.mpr ⟨xg_r (i := 66) (by decide +kernel) rfl, fun _ h => absurd h List.not_mem_nil⟩⟩⟩⟩⟩⟩⟩⟩⟩⟩⟩⟩
theorem iwX2 : ∀ w ∈ u_ws RX2 TX2 8, w ∈ gw := List.forall_mem_cons.mpr ⟨xg_r (i := 110) (by decide +kernel) rfl, List.forall_mem_cons.mpr ⟨xg_r (i := 112) (by decide +kernel) rfl, List.forall_mem_cons.mpr ⟨xg_r (i := 114) (by decide +kernel) rfl, List.forall_mem_cons.mpr ⟨xg_r (i := 116) (by decide +kernel) rfl, List.forall_mem_cons.mpr ⟨xg_r (i := 118) (by decide +kernel) rfl, List.forall_mem_cons.mpr ⟨xg_r (i := 120) (by decide +kernel) rfl, List.forall_mem_cons.mpr ⟨xg_r (i := 122) (by decide +kernel) rfl, List.forall_mem_cons.mpr ⟨xg_r (i := 124) (by decide +kernel) rfl, fun _ h => absurd h List.not_mem_nil⟩⟩⟩⟩⟩⟩⟩⟩
theorem iwX3 : ∀ w ∈ u_ws RX3 TX3 5, w ∈ gw := List.forall_mem_cons.mpr ⟨xg_r (i := 132) (by decide +kernel) rfl, List.forall_mem_cons.mpr ⟨xg_r (i := 134) (by decide +kernel) rfl, List.forall_mem_cons.mpr ⟨xg_r (i := 136) (by decide +kernel) rfl, List.forall_mem_cons.mpr ⟨xg_r (i := 138) (by decide +kernel) rfl, List.forall_mem_cons.mpr ⟨xg_r (i := 140) (by decide +kernel) rfl, fun _ h => absurd h List.not_mem_nil⟩⟩⟩⟩⟩
end
section
theorem dX0_init_0 : decode cX0_init 0 = .ok (.aload_n 0, 1) := by decide +kernel
theorem dX0_init_1 : decode cX0_init 1 = .ok (.invokespecial 1, 3) := by decide +kernel
theorem dX0_init_4 : decode cX0_init 4 = .ok (.aload_n 0, 1) := by decide +kernel
theorem dX0_init_5 : decode cX0_init 5 = .ok (.iconst 4, 1) := by decide +kernel
theorem dX0_init_6 : decode cX0_init 6 = .ok (.anewarray 9, 3) := by decide +kernel
theorem dX0_init_9 : decode cX0_init 9 = .ok (.putfield 11, 3) := by decide +kernel
theorem dX0_init_12 : decode cX0_init 12 = .ok (.aload_n 0, 1) := by decide +kernel
theorem dX0_init_13 : decode cX0_init 13 = .ok (.iconst 0, 1) := by decide +kernel
theorem dX0_init_14 : decode cX0_init 14 = .ok (.putfield 15, 3) := by decide +kernel
theorem dX0_init_17 : decode cX0_init 17 = .ok (.aload_n 0, 1) := by decide +kernel
theorem dX0_init_18 : decode cX0_init 18 = .ok (.iconst 0, 1) := by decide +kernel
theorem dX0_init_19 : decode cX0_init 19 = .ok (.putfield 19, 3) := by decide +kernel
theorem dX0_init_22 : decode cX0_init 22 = .ok (.iconst 0, 1) := by decide +kernel
theorem dX0_init_23 : decode cX0_init 23 = .ok (.istore_n 1, 1) := by decide +kernel
theorem dX0_init_24 : decode cX0_init 24 = .ok (.iload_n 1, 1) := by decide +kernel
theorem dX0_init_25 : decode cX0_init 25 = .ok (.iconst 4, 1) := by decide +kernel
theorem dX0_init_26 : decode cX0_init 26 = .ok (.if_icmp .ge 22, 3) := by decide +kernel
theorem dX0_init_29 : decode cX0_init 29 = .ok (.aload_n 0, 1) := by decide +kernel
theorem dX0_init_30 : decode cX0_init 30 = .ok (.getfield 11, 3) := by decide +kernel
theorem dX0_init_33 : decode cX0_init 33 = .ok (.iload_n 1, 1) := by decide +kernel
theorem dX0_init_34 : decode cX0_init 34 = .ok (.new 9, 3) := by decide +kernel
theorem dX0_init_37 : decode cX0_init 37 = .ok (.dup, 1) := by decide +kernel
theorem dX0_init_38 : decode cX0_init 38 = .ok (.invokespecial 22, 3) := by decide +kernel
theorem dX0_init_41 : decode cX0_init 41 = .ok (.aastore, 1) := by decide +kernel
theorem dX0_init_42 : decode cX0_init 42 = .ok (.iinc 1 1, 3) := by decide +kernel
theorem dX0_init_45 : decode cX0_init 45 = .ok (.goto (-21), 3) := by decide +kernel
theorem dX0_init_48 : decode cX0_init 48 = .ok (.return_, 1) := by decide +kernel
theorem dX0_record_0 : decode cX0_record 0 = .ok (.aload_n 0, 1) := by decide +kernel
theorem dX0_record_1 : decode cX0_record 1 = .ok (.getfield 19, 3) := by decide +kernel
theorem dX0_record_4 : decode cX0_record 4 = .ok (.iconst 4, 1) := by decide +kernel
theorem dX0_record_5 : decode cX0_record 5 = .ok (.if_icmp .ne 27, 3) := by decide +kernel
theorem dX0_record_8 : decode cX0_record 8 = .ok (.aload_n 0, 1) := by decide +kernel
theorem dX0_record_9 : decode cX0_record 9 = .ok (.aload_n 0, 1) := by decide +kernel
theorem dX0_record_10 : decode cX0_record 10 = .ok (.getfield 15, 3) := by decide +kernel
theorem dX0_record_13 : decode cX0_record 13 = .ok (.iconst 1, 1) := by decide +kernel
theorem dX0_record_14 : decode cX0_record 14 = .ok (.iadd, 1) := by decide +kernel
theorem dX0_record_15 : decode cX0_record 15 = .ok (.iconst 4, 1) := by decide +kernel
theorem dX0_record_16 : decode cX0_record 16 = .ok (.invokestatic 23, 3) := by decide +kernel
theorem dX0_record_19 : decode cX0_record 19 = .ok (.putfield 15, 3) := by decide +kernel
theorem dX0_record_22 : decode cX0_record 22 = .ok (.aload_n 0, 1) := by decide +kernel
theorem dX0_record_23 : decode cX0_record 23 = .ok (.dup, 1) := by decide +kernel
theorem dX0_record_24 : decode cX0_record 24 = .ok (.getfield 19, 3) := by decide +kernel
theorem dX0_record_27 : decode cX0_record 27 = .ok (.iconst 1, 1) := by decide +kernel
theorem dX0_record_28 : decode cX0_record 28 = .ok (.isub, 1) := by decide +kernel
theorem dX0_record_29 : decode cX0_record 29 = .ok (.putfield 19, 3) := by decide +kernel
theorem dX0_record_32 : decode cX0_record 32 = .ok (.aload_n 1, 1) := by decide +kernel
theorem dX0_record_33 : decode cX0_record 33 = .ok (.aload_n 0, 1) := by decide +kernel
theorem dX0_record_34 : decode cX0_record 34 = .ok (.getfield 11, 3) := by decide +kernel
theorem dX0_record_37 : decode cX0_record 37 = .ok (.aload_n 0, 1) := by decide +kernel
theorem dX0_record_38 : decode cX0_record 38 = .ok (.getfield 15, 3) := by decide +kernel
theorem dX0_record_41 : decode cX0_record 41 = .ok (.aload_n 0, 1) := by decide +kernel
theorem dX0_record_42 : decode cX0_record 42 = .ok (.getfield 19, 3) := by decide +kernel
theorem dX0_record_45 : decode cX0_record 45 = .ok (.iadd, 1) := by decide +kernel
theorem dX0_record_46 : decode cX0_record 46 = .ok (.iconst 4, 1) := by decide +kernel
theorem dX0_record_47 : decode cX0_record 47 = .ok (.invokestatic 23, 3) := by decide +kernel
theorem dX0_record_50 : decode cX0_record 50 = .ok (.aaload, 1) := by decide +kernel
theorem dX0_record_51 : decode cX0_record 51 = .ok (.invokestatic 29, 3) := by decide +kernel
theorem dX0_record_54 : decode cX0_record 54 = .ok (.aload_n 0, 1) := by decide +kernel
theorem dX0_record_55 : decode cX0_record 55 = .ok (.dup, 1) := by decide +kernel
theorem dX0_record_56 : decode cX0_record 56 = .ok (.getfield 19, 3) := by decide +kernel
theorem dX0_record_59 : decode cX0_record 59 = .ok (.iconst 1, 1) := by decide +kernel
theorem dX0_record_60 : decode cX0_record 60 = .ok (.iadd, 1) := by decide +kernel
theorem dX0_record_61 : decode cX0_record 61 = .ok (.putfield 19, 3) := by decide +kernel
theorem dX0_record_64 : decode cX0_record 64 = .ok (.return_, 1) := by decide +kernel
theorem dX0_takeLatestInto_0 : decode cX0_takeLatestInto 0 = .ok (.aload_n 0, 1) := by decide +kernel
theorem dX0_takeLatestInto_1 : decode cX0_takeLatestInto 1 = .ok (.getfield 19, 3) := by decide +kernel
theorem dX0_takeLatestInto_4 : decode cX0_takeLatestInto 4 = .ok (.ifCond .le 35, 3) := by decide +kernel
theorem dX0_takeLatestInto_7 : decode cX0_takeLatestInto 7 = .ok (.aload_n 0, 1) := by decide +kernel
theorem dX0_takeLatestInto_8 : decode cX0_takeLatestInto 8 = .ok (.dup, 1) := by decide +kernel
theorem dX0_takeLatestInto_9 : decode cX0_takeLatestInto 9 = .ok (.getfield 19, 3) := by decide +kernel
theorem dX0_takeLatestInto_12 : decode cX0_takeLatestInto 12 = .ok (.iconst 1, 1) := by decide +kernel
theorem dX0_takeLatestInto_13 : decode cX0_takeLatestInto 13 = .ok (.isub, 1) := by decide +kernel
theorem dX0_takeLatestInto_14 : decode cX0_takeLatestInto 14 = .ok (.putfield 19, 3) := by decide +kernel
theorem dX0_takeLatestInto_17 : decode cX0_takeLatestInto 17 = .ok (.aload_n 0, 1) := by decide +kernel
theorem dX0_takeLatestInto_18 : decode cX0_takeLatestInto 18 = .ok (.getfield 11, 3) := by decide +kernel
theorem dX0_takeLatestInto_21 : decode cX0_takeLatestInto 21 = .ok (.aload_n 0, 1) := by decide +kernel
theorem dX0_takeLatestInto_22 : decode cX0_takeLatestInto 22 = .ok (.getfield 15, 3) := by decide +kernel
theorem dX0_takeLatestInto_25 : decode cX0_takeLatestInto 25 = .ok (.aload_n 0, 1) := by decide +kernel
theorem dX0_takeLatestInto_26 : decode cX0_takeLatestInto 26 = .ok (.getfield 19, 3) := by decide +kernel
theorem dX0_takeLatestInto_29 : decode cX0_takeLatestInto 29 = .ok (.iadd, 1) := by decide +kernel
theorem dX0_takeLatestInto_30 : decode cX0_takeLatestInto 30 = .ok (.iconst 4, 1) := by decide +kernel
theorem dX0_takeLatestInto_31 : decode cX0_takeLatestInto 31 = .ok (.invokestatic 23, 3) := by decide +kernel
theorem dX0_takeLatestInto_34 : decode cX0_takeLatestInto 34 = .ok (.aaload, 1) := by decide +kernel
theorem dX0_takeLatestInto_35 : decode cX0_takeLatestInto 35 = .ok (.aload_n 1, 1) := by decide +kernel
theorem dX0_takeLatestInto_36 : decode cX0_takeLatestInto 36 = .ok (.invokestatic 29, 3) := by decide +kernel
theorem dX0_takeLatestInto_39 : decode cX0_takeLatestInto 39 = .ok (.return_, 1) := by decide +kernel
theorem dX1_init_0 : decode cX1_init 0 = .ok (.aload_n 0, 1) := by decide +kernel
theorem dX1_init_1 : decode cX1_init 1 = .ok (.invokespecial 3, 3) := by decide +kernel
theorem dX1_init_4 : decode cX1_init 4 = .ok (.aload_n 0, 1) := by decide +kernel
theorem dX1_init_5 : decode cX1_init 5 = .ok (.bipush 32, 2) := by decide +kernel
theorem dX1_init_7 : decode cX1_init 7 = .ok (.newarray .int, 2) := by decide +kernel
theorem dX1_init_9 : decode cX1_init 9 = .ok (.putfield 9, 3) := by decide +kernel
theorem dX1_init_12 : decode cX1_init 12 = .ok (.aload_n 0, 1) := by decide +kernel
theorem dX1_init_13 : decode cX1_init 13 = .ok (.bipush 32, 2) := by decide +kernel
theorem dX1_init_15 : decode cX1_init 15 = .ok (.newarray .int, 2) := by decide +kernel
theorem dX1_init_17 : decode cX1_init 17 = .ok (.putfield 15, 3) := by decide +kernel
theorem dX1_init_20 : decode cX1_init 20 = .ok (.aload_n 0, 1) := by decide +kernel
theorem dX1_init_21 : decode cX1_init 21 = .ok (.bipush 32, 2) := by decide +kernel
theorem dX1_init_23 : decode cX1_init 23 = .ok (.newarray .int, 2) := by decide +kernel
theorem dX1_init_25 : decode cX1_init 25 = .ok (.putfield 18, 3) := by decide +kernel
theorem dX1_init_28 : decode cX1_init 28 = .ok (.aload_n 0, 1) := by decide +kernel
theorem dX1_init_29 : decode cX1_init 29 = .ok (.bipush 32, 2) := by decide +kernel
theorem dX1_init_31 : decode cX1_init 31 = .ok (.newarray .int, 2) := by decide +kernel
theorem dX1_init_33 : decode cX1_init 33 = .ok (.putfield 21, 3) := by decide +kernel
theorem dX1_init_36 : decode cX1_init 36 = .ok (.aload_n 0, 1) := by decide +kernel
theorem dX1_init_37 : decode cX1_init 37 = .ok (.bipush 32, 2) := by decide +kernel
theorem dX1_init_39 : decode cX1_init 39 = .ok (.newarray .int, 2) := by decide +kernel
theorem dX1_init_41 : decode cX1_init 41 = .ok (.putfield 24, 3) := by decide +kernel
theorem dX1_init_44 : decode cX1_init 44 = .ok (.aload_n 0, 1) := by decide +kernel
theorem dX1_init_45 : decode cX1_init 45 = .ok (.bipush 32, 2) := by decide +kernel
theorem dX1_init_47 : decode cX1_init 47 = .ok (.newarray .int, 2) := by decide +kernel
theorem dX1_init_49 : decode cX1_init 49 = .ok (.putfield 27, 3) := by decide +kernel
theorem dX1_init_52 : decode cX1_init 52 = .ok (.aload_n 0, 1) := by decide +kernel
theorem dX1_init_53 : decode cX1_init 53 = .ok (.bipush 32, 2) := by decide +kernel
theorem dX1_init_55 : decode cX1_init 55 = .ok (.newarray .int, 2) := by decide +kernel
theorem dX1_init_57 : decode cX1_init 57 = .ok (.putfield 30, 3) := by decide +kernel
theorem dX1_init_60 : decode cX1_init 60 = .ok (.aload_n 0, 1) := by decide +kernel
theorem dX1_init_61 : decode cX1_init 61 = .ok (.iconst 0, 1) := by decide +kernel
theorem dX1_init_62 : decode cX1_init 62 = .ok (.putfield 33, 3) := by decide +kernel
theorem dX1_init_65 : decode cX1_init 65 = .ok (.aload_n 0, 1) := by decide +kernel
theorem dX1_init_66 : decode cX1_init 66 = .ok (.iconst 0, 1) := by decide +kernel
theorem dX1_init_67 : decode cX1_init 67 = .ok (.putfield 37, 3) := by decide +kernel
theorem dX1_init_70 : decode cX1_init 70 = .ok (.aload_n 0, 1) := by decide +kernel
theorem dX1_init_71 : decode cX1_init 71 = .ok (.iconst 0, 1) := by decide +kernel
theorem dX1_init_72 : decode cX1_init 72 = .ok (.putfield 40, 3) := by decide +kernel
theorem dX1_init_75 : decode cX1_init 75 = .ok (.aload_n 0, 1) := by decide +kernel
theorem dX1_init_76 : decode cX1_init 76 = .ok (.iconst 0, 1) := by decide +kernel
theorem dX1_init_77 : decode cX1_init 77 = .ok (.putfield 43, 3) := by decide +kernel
theorem dX1_init_80 : decode cX1_init 80 = .ok (.aload_n 0, 1) := by decide +kernel
theorem dX1_init_81 : decode cX1_init 81 = .ok (.iconst 0, 1) := by decide +kernel
theorem dX1_init_82 : decode cX1_init 82 = .ok (.putfield 46, 3) := by decide +kernel
theorem dX1_init_85 : decode cX1_init 85 = .ok (.iconst 0, 1) := by decide +kernel
theorem dX1_init_86 : decode cX1_init 86 = .ok (.istore_n 1, 1) := by decide +kernel
theorem dX1_init_87 : decode cX1_init 87 = .ok (.iload_n 1, 1) := by decide +kernel
theorem dX1_init_88 : decode cX1_init 88 = .ok (.bipush 32, 2) := by decide +kernel
theorem dX1_init_90 : decode cX1_init 90 = .ok (.if_icmp .ge 16, 3) := by decide +kernel
theorem dX1_init_93 : decode cX1_init 93 = .ok (.aload_n 0, 1) := by decide +kernel
theorem dX1_init_94 : decode cX1_init 94 = .ok (.getfield 9, 3) := by decide +kernel
theorem dX1_init_97 : decode cX1_init 97 = .ok (.iload_n 1, 1) := by decide +kernel
theorem dX1_init_98 : decode cX1_init 98 = .ok (.iconst (-1), 1) := by decide +kernel
theorem dX1_init_99 : decode cX1_init 99 = .ok (.iastore, 1) := by decide +kernel
theorem dX1_init_100 : decode cX1_init 100 = .ok (.iinc 1 1, 3) := by decide +kernel
theorem dX1_init_103 : decode cX1_init 103 = .ok (.goto (-16), 3) := by decide +kernel
theorem dX1_init_106 : decode cX1_init 106 = .ok (.return_, 1) := by decide +kernel
theorem dX1_copyFrom_0 : decode cX1_copyFrom 0 = .ok (.iconst 0, 1) := by decide +kernel
theorem dX1_copyFrom_1 : decode cX1_copyFrom 1 = .ok (.istore_n 2, 1) := by decide +kernel
theorem dX1_copyFrom_2 : decode cX1_copyFrom 2 = .ok (.iload_n 2, 1) := by decide +kernel
theorem dX1_copyFrom_3 : decode cX1_copyFrom 3 = .ok (.bipush 32, 2) := by decide +kernel
theorem dX1_copyFrom_5 : decode cX1_copyFrom 5 = .ok (.if_icmp .ge 93, 3) := by decide +kernel
theorem dX1_copyFrom_8 : decode cX1_copyFrom 8 = .ok (.aload_n 0, 1) := by decide +kernel
theorem dX1_copyFrom_9 : decode cX1_copyFrom 9 = .ok (.getfield 9, 3) := by decide +kernel
theorem dX1_copyFrom_12 : decode cX1_copyFrom 12 = .ok (.iload_n 2, 1) := by decide +kernel
theorem dX1_copyFrom_13 : decode cX1_copyFrom 13 = .ok (.aload_n 1, 1) := by decide +kernel
theorem dX1_copyFrom_14 : decode cX1_copyFrom 14 = .ok (.getfield 9, 3) := by decide +kernel
theorem dX1_copyFrom_17 : decode cX1_copyFrom 17 = .ok (.iload_n 2, 1) := by decide +kernel
theorem dX1_copyFrom_18 : decode cX1_copyFrom 18 = .ok (.iaload, 1) := by decide +kernel
theorem dX1_copyFrom_19 : decode cX1_copyFrom 19 = .ok (.iastore, 1) := by decide +kernel
theorem dX1_copyFrom_20 : decode cX1_copyFrom 20 = .ok (.aload_n 0, 1) := by decide +kernel
theorem dX1_copyFrom_21 : decode cX1_copyFrom 21 = .ok (.getfield 15, 3) := by decide +kernel
theorem dX1_copyFrom_24 : decode cX1_copyFrom 24 = .ok (.iload_n 2, 1) := by decide +kernel
theorem dX1_copyFrom_25 : decode cX1_copyFrom 25 = .ok (.aload_n 1, 1) := by decide +kernel
theorem dX1_copyFrom_26 : decode cX1_copyFrom 26 = .ok (.getfield 15, 3) := by decide +kernel
theorem dX1_copyFrom_29 : decode cX1_copyFrom 29 = .ok (.iload_n 2, 1) := by decide +kernel
theorem dX1_copyFrom_30 : decode cX1_copyFrom 30 = .ok (.iaload, 1) := by decide +kernel
theorem dX1_copyFrom_31 : decode cX1_copyFrom 31 = .ok (.iastore, 1) := by decide +kernel
theorem dX1_copyFrom_32 : decode cX1_copyFrom 32 = .ok (.aload_n 0, 1) := by decide +kernel
theorem dX1_copyFrom_33 : decode cX1_copyFrom 33 = .ok (.getfield 18, 3) := by decide +kernel
theorem dX1_copyFrom_36 : decode cX1_copyFrom 36 = .ok (.iload_n 2, 1) := by decide +kernel
theorem dX1_copyFrom_37 : decode cX1_copyFrom 37 = .ok (.aload_n 1, 1) := by decide +kernel
theorem dX1_copyFrom_38 : decode cX1_copyFrom 38 = .ok (.getfield 18, 3) := by decide +kernel
theorem dX1_copyFrom_41 : decode cX1_copyFrom 41 = .ok (.iload_n 2, 1) := by decide +kernel
theorem dX1_copyFrom_42 : decode cX1_copyFrom 42 = .ok (.iaload, 1) := by decide +kernel
theorem dX1_copyFrom_43 : decode cX1_copyFrom 43 = .ok (.iastore, 1) := by decide +kernel
theorem dX1_copyFrom_44 : decode cX1_copyFrom 44 = .ok (.aload_n 0, 1) := by decide +kernel
theorem dX1_copyFrom_45 : decode cX1_copyFrom 45 = .ok (.getfield 21, 3) := by decide +kernel
theorem dX1_copyFrom_48 : decode cX1_copyFrom 48 = .ok (.iload_n 2, 1) := by decide +kernel
theorem dX1_copyFrom_49 : decode cX1_copyFrom 49 = .ok (.aload_n 1, 1) := by decide +kernel
theorem dX1_copyFrom_50 : decode cX1_copyFrom 50 = .ok (.getfield 21, 3) := by decide +kernel
theorem dX1_copyFrom_53 : decode cX1_copyFrom 53 = .ok (.iload_n 2, 1) := by decide +kernel
theorem dX1_copyFrom_54 : decode cX1_copyFrom 54 = .ok (.iaload, 1) := by decide +kernel
theorem dX1_copyFrom_55 : decode cX1_copyFrom 55 = .ok (.iastore, 1) := by decide +kernel
theorem dX1_copyFrom_56 : decode cX1_copyFrom 56 = .ok (.aload_n 0, 1) := by decide +kernel
theorem dX1_copyFrom_57 : decode cX1_copyFrom 57 = .ok (.getfield 24, 3) := by decide +kernel
theorem dX1_copyFrom_60 : decode cX1_copyFrom 60 = .ok (.iload_n 2, 1) := by decide +kernel
theorem dX1_copyFrom_61 : decode cX1_copyFrom 61 = .ok (.aload_n 1, 1) := by decide +kernel
theorem dX1_copyFrom_62 : decode cX1_copyFrom 62 = .ok (.getfield 24, 3) := by decide +kernel
theorem dX1_copyFrom_65 : decode cX1_copyFrom 65 = .ok (.iload_n 2, 1) := by decide +kernel
theorem dX1_copyFrom_66 : decode cX1_copyFrom 66 = .ok (.iaload, 1) := by decide +kernel
theorem dX1_copyFrom_67 : decode cX1_copyFrom 67 = .ok (.iastore, 1) := by decide +kernel
theorem dX1_copyFrom_68 : decode cX1_copyFrom 68 = .ok (.aload_n 0, 1) := by decide +kernel
theorem dX1_copyFrom_69 : decode cX1_copyFrom 69 = .ok (.getfield 27, 3) := by decide +kernel
theorem dX1_copyFrom_72 : decode cX1_copyFrom 72 = .ok (.iload_n 2, 1) := by decide +kernel
theorem dX1_copyFrom_73 : decode cX1_copyFrom 73 = .ok (.aload_n 1, 1) := by decide +kernel
theorem dX1_copyFrom_74 : decode cX1_copyFrom 74 = .ok (.getfield 27, 3) := by decide +kernel
theorem dX1_copyFrom_77 : decode cX1_copyFrom 77 = .ok (.iload_n 2, 1) := by decide +kernel
theorem dX1_copyFrom_78 : decode cX1_copyFrom 78 = .ok (.iaload, 1) := by decide +kernel
theorem dX1_copyFrom_79 : decode cX1_copyFrom 79 = .ok (.iastore, 1) := by decide +kernel
theorem dX1_copyFrom_80 : decode cX1_copyFrom 80 = .ok (.aload_n 0, 1) := by decide +kernel
theorem dX1_copyFrom_81 : decode cX1_copyFrom 81 = .ok (.getfield 30, 3) := by decide +kernel
theorem dX1_copyFrom_84 : decode cX1_copyFrom 84 = .ok (.iload_n 2, 1) := by decide +kernel
theorem dX1_copyFrom_85 : decode cX1_copyFrom 85 = .ok (.aload_n 1, 1) := by decide +kernel
theorem dX1_copyFrom_86 : decode cX1_copyFrom 86 = .ok (.getfield 30, 3) := by decide +kernel
theorem dX1_copyFrom_89 : decode cX1_copyFrom 89 = .ok (.iload_n 2, 1) := by decide +kernel
theorem dX1_copyFrom_90 : decode cX1_copyFrom 90 = .ok (.iaload, 1) := by decide +kernel
theorem dX1_copyFrom_91 : decode cX1_copyFrom 91 = .ok (.iastore, 1) := by decide +kernel
theorem dX1_copyFrom_92 : decode cX1_copyFrom 92 = .ok (.iinc 2 1, 3) := by decide +kernel
theorem dX1_copyFrom_95 : decode cX1_copyFrom 95 = .ok (.goto (-93), 3) := by decide +kernel
theorem dX1_copyFrom_98 : decode cX1_copyFrom 98 = .ok (.aload_n 0, 1) := by decide +kernel
theorem dX1_copyFrom_99 : decode cX1_copyFrom 99 = .ok (.aload_n 1, 1) := by decide +kernel
theorem dX1_copyFrom_100 : decode cX1_copyFrom 100 = .ok (.getfield 33, 3) := by decide +kernel
theorem dX1_copyFrom_103 : decode cX1_copyFrom 103 = .ok (.putfield 33, 3) := by decide +kernel
theorem dX1_copyFrom_106 : decode cX1_copyFrom 106 = .ok (.aload_n 0, 1) := by decide +kernel
theorem dX1_copyFrom_107 : decode cX1_copyFrom 107 = .ok (.aload_n 1, 1) := by decide +kernel
theorem dX1_copyFrom_108 : decode cX1_copyFrom 108 = .ok (.getfield 37, 3) := by decide +kernel
theorem dX1_copyFrom_111 : decode cX1_copyFrom 111 = .ok (.putfield 37, 3) := by decide +kernel
theorem dX1_copyFrom_114 : decode cX1_copyFrom 114 = .ok (.aload_n 0, 1) := by decide +kernel
theorem dX1_copyFrom_115 : decode cX1_copyFrom 115 = .ok (.aload_n 1, 1) := by decide +kernel
theorem dX1_copyFrom_116 : decode cX1_copyFrom 116 = .ok (.getfield 40, 3) := by decide +kernel
theorem dX1_copyFrom_119 : decode cX1_copyFrom 119 = .ok (.putfield 40, 3) := by decide +kernel
theorem dX1_copyFrom_122 : decode cX1_copyFrom 122 = .ok (.aload_n 0, 1) := by decide +kernel
theorem dX1_copyFrom_123 : decode cX1_copyFrom 123 = .ok (.aload_n 1, 1) := by decide +kernel
theorem dX1_copyFrom_124 : decode cX1_copyFrom 124 = .ok (.getfield 43, 3) := by decide +kernel
theorem dX1_copyFrom_127 : decode cX1_copyFrom 127 = .ok (.putfield 43, 3) := by decide +kernel
theorem dX1_copyFrom_130 : decode cX1_copyFrom 130 = .ok (.aload_n 0, 1) := by decide +kernel
theorem dX1_copyFrom_131 : decode cX1_copyFrom 131 = .ok (.aload_n 1, 1) := by decide +kernel
theorem dX1_copyFrom_132 : decode cX1_copyFrom 132 = .ok (.getfield 46, 3) := by decide +kernel
theorem dX1_copyFrom_135 : decode cX1_copyFrom 135 = .ok (.putfield 46, 3) := by decide +kernel
theorem dX1_copyFrom_138 : decode cX1_copyFrom 138 = .ok (.return_, 1) := by decide +kernel
theorem dX1_holdsEntry_0 : decode cX1_holdsEntry 0 = .ok (.iload_n 1, 1) := by decide +kernel
theorem dX1_holdsEntry_1 : decode cX1_holdsEntry 1 = .ok (.ifCond .lt 23, 3) := by decide +kernel
theorem dX1_holdsEntry_4 : decode cX1_holdsEntry 4 = .ok (.iload_n 1, 1) := by decide +kernel
theorem dX1_holdsEntry_5 : decode cX1_holdsEntry 5 = .ok (.bipush 32, 2) := by decide +kernel
theorem dX1_holdsEntry_7 : decode cX1_holdsEntry 7 = .ok (.if_icmp .ge 17, 3) := by decide +kernel
theorem dX1_holdsEntry_10 : decode cX1_holdsEntry 10 = .ok (.aload_n 0, 1) := by decide +kernel
theorem dX1_holdsEntry_11 : decode cX1_holdsEntry 11 = .ok (.getfield 9, 3) := by decide +kernel
theorem dX1_holdsEntry_14 : decode cX1_holdsEntry 14 = .ok (.iload_n 1, 1) := by decide +kernel
theorem dX1_holdsEntry_15 : decode cX1_holdsEntry 15 = .ok (.iaload, 1) := by decide +kernel
theorem dX1_holdsEntry_16 : decode cX1_holdsEntry 16 = .ok (.iconst (-1), 1) := by decide +kernel
theorem dX1_holdsEntry_17 : decode cX1_holdsEntry 17 = .ok (.if_icmp .eq 7, 3) := by decide +kernel
theorem dX1_holdsEntry_20 : decode cX1_holdsEntry 20 = .ok (.iconst 1, 1) := by decide +kernel
theorem dX1_holdsEntry_21 : decode cX1_holdsEntry 21 = .ok (.goto 4, 3) := by decide +kernel
theorem dX1_holdsEntry_24 : decode cX1_holdsEntry 24 = .ok (.iconst 0, 1) := by decide +kernel
theorem dX1_holdsEntry_25 : decode cX1_holdsEntry 25 = .ok (.ireturn, 1) := by decide +kernel
theorem dX1_told_0 : decode cX1_told 0 = .ok (.iload_n 2, 1) := by decide +kernel
theorem dX1_told_1 : decode cX1_told 1 = .ok (.invokestatic 49, 3) := by decide +kernel
theorem dX1_told_4 : decode cX1_told 4 = .ok (.ifCond .eq 9, 3) := by decide +kernel
theorem dX1_told_7 : decode cX1_told 7 = .ok (.iload_n 2, 1) := by decide +kernel
theorem dX1_told_8 : decode cX1_told 8 = .ok (.aload_n 1, 1) := by decide +kernel
theorem dX1_told_9 : decode cX1_told 9 = .ok (.arraylength, 1) := by decide +kernel
theorem dX1_told_10 : decode cX1_told 10 = .ok (.if_icmp .lt 5, 3) := by decide +kernel
theorem dX1_told_13 : decode cX1_told 13 = .ok (.iconst (-1), 1) := by decide +kernel
theorem dX1_told_14 : decode cX1_told 14 = .ok (.ireturn, 1) := by decide +kernel
theorem dX1_told_15 : decode cX1_told 15 = .ok (.aload_n 0, 1) := by decide +kernel
theorem dX1_told_16 : decode cX1_told 16 = .ok (.iload_n 2, 1) := by decide +kernel
theorem dX1_told_17 : decode cX1_told 17 = .ok (.invokevirtual 53, 3) := by decide +kernel
theorem dX1_told_20 : decode cX1_told 20 = .ok (.ifCond .eq 9, 3) := by decide +kernel
theorem dX1_told_23 : decode cX1_told 23 = .ok (.aload_n 1, 1) := by decide +kernel
theorem dX1_told_24 : decode cX1_told 24 = .ok (.iload_n 2, 1) := by decide +kernel
theorem dX1_told_25 : decode cX1_told 25 = .ok (.iaload, 1) := by decide +kernel
theorem dX1_told_26 : decode cX1_told 26 = .ok (.goto 5, 3) := by decide +kernel
theorem dX1_told_29 : decode cX1_told 29 = .ok (.bipush (-4), 2) := by decide +kernel
theorem dX1_told_31 : decode cX1_told 31 = .ok (.ireturn, 1) := by decide +kernel
theorem dX1_entries_0 : decode cX1_entries 0 = .ok (.iconst 0, 1) := by decide +kernel
theorem dX1_entries_1 : decode cX1_entries 1 = .ok (.istore_n 1, 1) := by decide +kernel
theorem dX1_entries_2 : decode cX1_entries 2 = .ok (.iconst 0, 1) := by decide +kernel
theorem dX1_entries_3 : decode cX1_entries 3 = .ok (.istore_n 2, 1) := by decide +kernel
theorem dX1_entries_4 : decode cX1_entries 4 = .ok (.iload_n 2, 1) := by decide +kernel
theorem dX1_entries_5 : decode cX1_entries 5 = .ok (.iconst 4, 1) := by decide +kernel
theorem dX1_entries_6 : decode cX1_entries 6 = .ok (.if_icmp .ge 17, 3) := by decide +kernel
theorem dX1_entries_9 : decode cX1_entries 9 = .ok (.iload_n 1, 1) := by decide +kernel
theorem dX1_entries_10 : decode cX1_entries 10 = .ok (.aload_n 0, 1) := by decide +kernel
theorem dX1_entries_11 : decode cX1_entries 11 = .ok (.iload_n 2, 1) := by decide +kernel
theorem dX1_entries_12 : decode cX1_entries 12 = .ok (.invokevirtual 56, 3) := by decide +kernel
theorem dX1_entries_15 : decode cX1_entries 15 = .ok (.iadd, 1) := by decide +kernel
theorem dX1_entries_16 : decode cX1_entries 16 = .ok (.istore_n 1, 1) := by decide +kernel
theorem dX1_entries_17 : decode cX1_entries 17 = .ok (.iinc 2 1, 3) := by decide +kernel
theorem dX1_entries_20 : decode cX1_entries 20 = .ok (.goto (-16), 3) := by decide +kernel
theorem dX1_entries_23 : decode cX1_entries 23 = .ok (.iload_n 1, 1) := by decide +kernel
theorem dX1_entries_24 : decode cX1_entries 24 = .ok (.ireturn, 1) := by decide +kernel
theorem dX1_freeSlots_0 : decode cX1_freeSlots 0 = .ok (.bipush 32, 2) := by decide +kernel
theorem dX1_freeSlots_2 : decode cX1_freeSlots 2 = .ok (.aload_n 0, 1) := by decide +kernel
theorem dX1_freeSlots_3 : decode cX1_freeSlots 3 = .ok (.invokevirtual 60, 3) := by decide +kernel
theorem dX1_freeSlots_6 : decode cX1_freeSlots 6 = .ok (.isub, 1) := by decide +kernel
theorem dX1_freeSlots_7 : decode cX1_freeSlots 7 = .ok (.ireturn, 1) := by decide +kernel
theorem dX1_rules_0 : decode cX1_rules 0 = .ok (.iconst 0, 1) := by decide +kernel
theorem dX1_rules_1 : decode cX1_rules 1 = .ok (.istore_n 1, 1) := by decide +kernel
theorem dX1_rules_2 : decode cX1_rules 2 = .ok (.iconst 0, 1) := by decide +kernel
theorem dX1_rules_3 : decode cX1_rules 3 = .ok (.istore_n 2, 1) := by decide +kernel
theorem dX1_rules_4 : decode cX1_rules 4 = .ok (.iload_n 2, 1) := by decide +kernel
theorem dX1_rules_5 : decode cX1_rules 5 = .ok (.bipush 32, 2) := by decide +kernel
theorem dX1_rules_7 : decode cX1_rules 7 = .ok (.if_icmp .ge 29, 3) := by decide +kernel
theorem dX1_rules_10 : decode cX1_rules 10 = .ok (.aload_n 0, 1) := by decide +kernel
theorem dX1_rules_11 : decode cX1_rules 11 = .ok (.iload_n 2, 1) := by decide +kernel
theorem dX1_rules_12 : decode cX1_rules 12 = .ok (.invokevirtual 53, 3) := by decide +kernel
theorem dX1_rules_15 : decode cX1_rules 15 = .ok (.ifCond .eq 15, 3) := by decide +kernel
theorem dX1_rules_18 : decode cX1_rules 18 = .ok (.aload_n 0, 1) := by decide +kernel
theorem dX1_rules_19 : decode cX1_rules 19 = .ok (.getfield 15, 3) := by decide +kernel
theorem dX1_rules_22 : decode cX1_rules 22 = .ok (.iload_n 2, 1) := by decide +kernel
theorem dX1_rules_23 : decode cX1_rules 23 = .ok (.iaload, 1) := by decide +kernel
theorem dX1_rules_24 : decode cX1_rules 24 = .ok (.ifCond .ne 6, 3) := by decide +kernel
theorem dX1_rules_27 : decode cX1_rules 27 = .ok (.iinc 1 1, 3) := by decide +kernel
theorem dX1_rules_30 : decode cX1_rules 30 = .ok (.iinc 2 1, 3) := by decide +kernel
theorem dX1_rules_33 : decode cX1_rules 33 = .ok (.goto (-29), 3) := by decide +kernel
theorem dX1_rules_36 : decode cX1_rules 36 = .ok (.iload_n 1, 1) := by decide +kernel
theorem dX1_rules_37 : decode cX1_rules 37 = .ok (.ireturn, 1) := by decide +kernel
theorem dX1_entriesOf_0 : decode cX1_entriesOf 0 = .ok (.iconst 0, 1) := by decide +kernel
theorem dX1_entriesOf_1 : decode cX1_entriesOf 1 = .ok (.istore_n 2, 1) := by decide +kernel
theorem dX1_entriesOf_2 : decode cX1_entriesOf 2 = .ok (.iconst 0, 1) := by decide +kernel
theorem dX1_entriesOf_3 : decode cX1_entriesOf 3 = .ok (.istore_n 3, 1) := by decide +kernel
theorem dX1_entriesOf_4 : decode cX1_entriesOf 4 = .ok (.iload_n 3, 1) := by decide +kernel
theorem dX1_entriesOf_5 : decode cX1_entriesOf 5 = .ok (.bipush 32, 2) := by decide +kernel
theorem dX1_entriesOf_7 : decode cX1_entriesOf 7 = .ok (.if_icmp .ge 30, 3) := by decide +kernel
theorem dX1_entriesOf_10 : decode cX1_entriesOf 10 = .ok (.aload_n 0, 1) := by decide +kernel
theorem dX1_entriesOf_11 : decode cX1_entriesOf 11 = .ok (.iload_n 3, 1) := by decide +kernel
theorem dX1_entriesOf_12 : decode cX1_entriesOf 12 = .ok (.invokevirtual 53, 3) := by decide +kernel
theorem dX1_entriesOf_15 : decode cX1_entriesOf 15 = .ok (.ifCond .eq 16, 3) := by decide +kernel
theorem dX1_entriesOf_18 : decode cX1_entriesOf 18 = .ok (.aload_n 0, 1) := by decide +kernel
theorem dX1_entriesOf_19 : decode cX1_entriesOf 19 = .ok (.getfield 9, 3) := by decide +kernel
theorem dX1_entriesOf_22 : decode cX1_entriesOf 22 = .ok (.iload_n 3, 1) := by decide +kernel
theorem dX1_entriesOf_23 : decode cX1_entriesOf 23 = .ok (.iaload, 1) := by decide +kernel
theorem dX1_entriesOf_24 : decode cX1_entriesOf 24 = .ok (.iload_n 1, 1) := by decide +kernel
theorem dX1_entriesOf_25 : decode cX1_entriesOf 25 = .ok (.if_icmp .ne 6, 3) := by decide +kernel
theorem dX1_entriesOf_28 : decode cX1_entriesOf 28 = .ok (.iinc 2 1, 3) := by decide +kernel
theorem dX1_entriesOf_31 : decode cX1_entriesOf 31 = .ok (.iinc 3 1, 3) := by decide +kernel
theorem dX1_entriesOf_34 : decode cX1_entriesOf 34 = .ok (.goto (-30), 3) := by decide +kernel
theorem dX1_entriesOf_37 : decode cX1_entriesOf 37 = .ok (.iload_n 2, 1) := by decide +kernel
theorem dX1_entriesOf_38 : decode cX1_entriesOf 38 = .ok (.ireturn, 1) := by decide +kernel
theorem dX1_slotHolding_0 : decode cX1_slotHolding 0 = .ok (.iconst 0, 1) := by decide +kernel
theorem dX1_slotHolding_1 : decode cX1_slotHolding 1 = .ok (.istore_n 3, 1) := by decide +kernel
theorem dX1_slotHolding_2 : decode cX1_slotHolding 2 = .ok (.iload_n 3, 1) := by decide +kernel
theorem dX1_slotHolding_3 : decode cX1_slotHolding 3 = .ok (.bipush 32, 2) := by decide +kernel
theorem dX1_slotHolding_5 : decode cX1_slotHolding 5 = .ok (.if_icmp .ge 39, 3) := by decide +kernel
theorem dX1_slotHolding_8 : decode cX1_slotHolding 8 = .ok (.aload_n 0, 1) := by decide +kernel
theorem dX1_slotHolding_9 : decode cX1_slotHolding 9 = .ok (.iload_n 3, 1) := by decide +kernel
theorem dX1_slotHolding_10 : decode cX1_slotHolding 10 = .ok (.invokevirtual 53, 3) := by decide +kernel
theorem dX1_slotHolding_13 : decode cX1_slotHolding 13 = .ok (.ifCond .eq 25, 3) := by decide +kernel
theorem dX1_slotHolding_16 : decode cX1_slotHolding 16 = .ok (.aload_n 0, 1) := by decide +kernel
theorem dX1_slotHolding_17 : decode cX1_slotHolding 17 = .ok (.getfield 9, 3) := by decide +kernel
theorem dX1_slotHolding_20 : decode cX1_slotHolding 20 = .ok (.iload_n 3, 1) := by decide +kernel
theorem dX1_slotHolding_21 : decode cX1_slotHolding 21 = .ok (.iaload, 1) := by decide +kernel
theorem dX1_slotHolding_22 : decode cX1_slotHolding 22 = .ok (.iload_n 1, 1) := by decide +kernel
theorem dX1_slotHolding_23 : decode cX1_slotHolding 23 = .ok (.if_icmp .ne 15, 3) := by decide +kernel
theorem dX1_slotHolding_26 : decode cX1_slotHolding 26 = .ok (.aload_n 0, 1) := by decide +kernel
theorem dX1_slotHolding_27 : decode cX1_slotHolding 27 = .ok (.getfield 15, 3) := by decide +kernel
theorem dX1_slotHolding_30 : decode cX1_slotHolding 30 = .ok (.iload_n 3, 1) := by decide +kernel
theorem dX1_slotHolding_31 : decode cX1_slotHolding 31 = .ok (.iaload, 1) := by decide +kernel
theorem dX1_slotHolding_32 : decode cX1_slotHolding 32 = .ok (.iload_n 2, 1) := by decide +kernel
theorem dX1_slotHolding_33 : decode cX1_slotHolding 33 = .ok (.if_icmp .ne 5, 3) := by decide +kernel
theorem dX1_slotHolding_36 : decode cX1_slotHolding 36 = .ok (.iload_n 3, 1) := by decide +kernel
theorem dX1_slotHolding_37 : decode cX1_slotHolding 37 = .ok (.ireturn, 1) := by decide +kernel
theorem dX1_slotHolding_38 : decode cX1_slotHolding 38 = .ok (.iinc 3 1, 3) := by decide +kernel
theorem dX1_slotHolding_41 : decode cX1_slotHolding 41 = .ok (.goto (-39), 3) := by decide +kernel
theorem dX1_slotHolding_44 : decode cX1_slotHolding 44 = .ok (.iconst (-1), 1) := by decide +kernel
theorem dX1_slotHolding_45 : decode cX1_slotHolding 45 = .ok (.ireturn, 1) := by decide +kernel
theorem dX1_dropEntriesOf_0 : decode cX1_dropEntriesOf 0 = .ok (.iconst 0, 1) := by decide +kernel
theorem dX1_dropEntriesOf_1 : decode cX1_dropEntriesOf 1 = .ok (.istore_n 2, 1) := by decide +kernel
theorem dX1_dropEntriesOf_2 : decode cX1_dropEntriesOf 2 = .ok (.iload_n 2, 1) := by decide +kernel
theorem dX1_dropEntriesOf_3 : decode cX1_dropEntriesOf 3 = .ok (.bipush 32, 2) := by decide +kernel
theorem dX1_dropEntriesOf_5 : decode cX1_dropEntriesOf 5 = .ok (.if_icmp .ge 26, 3) := by decide +kernel
theorem dX1_dropEntriesOf_8 : decode cX1_dropEntriesOf 8 = .ok (.aload_n 0, 1) := by decide +kernel
theorem dX1_dropEntriesOf_9 : decode cX1_dropEntriesOf 9 = .ok (.getfield 9, 3) := by decide +kernel
theorem dX1_dropEntriesOf_12 : decode cX1_dropEntriesOf 12 = .ok (.iload_n 2, 1) := by decide +kernel
theorem dX1_dropEntriesOf_13 : decode cX1_dropEntriesOf 13 = .ok (.iaload, 1) := by decide +kernel
theorem dX1_dropEntriesOf_14 : decode cX1_dropEntriesOf 14 = .ok (.iload_n 1, 1) := by decide +kernel
theorem dX1_dropEntriesOf_15 : decode cX1_dropEntriesOf 15 = .ok (.if_icmp .ne 10, 3) := by decide +kernel
theorem dX1_dropEntriesOf_18 : decode cX1_dropEntriesOf 18 = .ok (.aload_n 0, 1) := by decide +kernel
theorem dX1_dropEntriesOf_19 : decode cX1_dropEntriesOf 19 = .ok (.getfield 9, 3) := by decide +kernel
theorem dX1_dropEntriesOf_22 : decode cX1_dropEntriesOf 22 = .ok (.iload_n 2, 1) := by decide +kernel
theorem dX1_dropEntriesOf_23 : decode cX1_dropEntriesOf 23 = .ok (.iconst (-1), 1) := by decide +kernel
theorem dX1_dropEntriesOf_24 : decode cX1_dropEntriesOf 24 = .ok (.iastore, 1) := by decide +kernel
theorem dX1_dropEntriesOf_25 : decode cX1_dropEntriesOf 25 = .ok (.iinc 2 1, 3) := by decide +kernel
theorem dX1_dropEntriesOf_28 : decode cX1_dropEntriesOf 28 = .ok (.goto (-26), 3) := by decide +kernel
theorem dX1_dropEntriesOf_31 : decode cX1_dropEntriesOf 31 = .ok (.return_, 1) := by decide +kernel
theorem dX1_addSingle_0 : decode cX1_addSingle 0 = .ok (.aload_n 0, 1) := by decide +kernel
theorem dX1_addSingle_1 : decode cX1_addSingle 1 = .ok (.getfield 37, 3) := by decide +kernel
theorem dX1_addSingle_4 : decode cX1_addSingle 4 = .ok (.istore 5, 2) := by decide +kernel
theorem dX1_addSingle_6 : decode cX1_addSingle 6 = .ok (.aload_n 0, 1) := by decide +kernel
theorem dX1_addSingle_7 : decode cX1_addSingle 7 = .ok (.dup, 1) := by decide +kernel
theorem dX1_addSingle_8 : decode cX1_addSingle 8 = .ok (.getfield 37, 3) := by decide +kernel
theorem dX1_addSingle_11 : decode cX1_addSingle 11 = .ok (.iconst 1, 1) := by decide +kernel
theorem dX1_addSingle_12 : decode cX1_addSingle 12 = .ok (.iadd, 1) := by decide +kernel
theorem dX1_addSingle_13 : decode cX1_addSingle 13 = .ok (.putfield 37, 3) := by decide +kernel
theorem dX1_addSingle_16 : decode cX1_addSingle 16 = .ok (.aload_n 0, 1) := by decide +kernel
theorem dX1_addSingle_17 : decode cX1_addSingle 17 = .ok (.aload_n 0, 1) := by decide +kernel
theorem dX1_addSingle_18 : decode cX1_addSingle 18 = .ok (.iload_n 3, 1) := by decide +kernel
theorem dX1_addSingle_19 : decode cX1_addSingle 19 = .ok (.invokevirtual 64, 3) := by decide +kernel
theorem dX1_addSingle_22 : decode cX1_addSingle 22 = .ok (.iload 5, 2) := by decide +kernel
theorem dX1_addSingle_24 : decode cX1_addSingle 24 = .ok (.iconst 0, 1) := by decide +kernel
theorem dX1_addSingle_25 : decode cX1_addSingle 25 = .ok (.iload_n 2, 1) := by decide +kernel
theorem dX1_addSingle_26 : decode cX1_addSingle 26 = .ok (.iload_n 1, 1) := by decide +kernel
theorem dX1_addSingle_27 : decode cX1_addSingle 27 = .ok (.iload_n 3, 1) := by decide +kernel
theorem dX1_addSingle_28 : decode cX1_addSingle 28 = .ok (.iload 4, 2) := by decide +kernel
theorem dX1_addSingle_30 : decode cX1_addSingle 30 = .ok (.invokevirtual 67, 3) := by decide +kernel
theorem dX1_addSingle_33 : decode cX1_addSingle 33 = .ok (.iload 5, 2) := by decide +kernel
theorem dX1_addSingle_35 : decode cX1_addSingle 35 = .ok (.ireturn, 1) := by decide +kernel
theorem dX1_addBlocks_0 : decode cX1_addBlocks 0 = .ok (.aload_n 0, 1) := by decide +kernel
theorem dX1_addBlocks_1 : decode cX1_addBlocks 1 = .ok (.getfield 37, 3) := by decide +kernel
theorem dX1_addBlocks_4 : decode cX1_addBlocks 4 = .ok (.istore 5, 2) := by decide +kernel
theorem dX1_addBlocks_6 : decode cX1_addBlocks 6 = .ok (.aload_n 0, 1) := by decide +kernel
theorem dX1_addBlocks_7 : decode cX1_addBlocks 7 = .ok (.dup, 1) := by decide +kernel
theorem dX1_addBlocks_8 : decode cX1_addBlocks 8 = .ok (.getfield 37, 3) := by decide +kernel
theorem dX1_addBlocks_11 : decode cX1_addBlocks 11 = .ok (.iconst 1, 1) := by decide +kernel
theorem dX1_addBlocks_12 : decode cX1_addBlocks 12 = .ok (.iadd, 1) := by decide +kernel
theorem dX1_addBlocks_13 : decode cX1_addBlocks 13 = .ok (.putfield 37, 3) := by decide +kernel
theorem dX1_addBlocks_16 : decode cX1_addBlocks 16 = .ok (.iload_n 1, 1) := by decide +kernel
theorem dX1_addBlocks_17 : decode cX1_addBlocks 17 = .ok (.istore 6, 2) := by decide +kernel
theorem dX1_addBlocks_19 : decode cX1_addBlocks 19 = .ok (.iconst 0, 1) := by decide +kernel
theorem dX1_addBlocks_20 : decode cX1_addBlocks 20 = .ok (.istore 7, 2) := by decide +kernel
theorem dX1_addBlocks_22 : decode cX1_addBlocks 22 = .ok (.iload 7, 2) := by decide +kernel
theorem dX1_addBlocks_24 : decode cX1_addBlocks 24 = .ok (.bipush 14, 2) := by decide +kernel
theorem dX1_addBlocks_26 : decode cX1_addBlocks 26 = .ok (.if_icmp .ge 54, 3) := by decide +kernel
theorem dX1_addBlocks_29 : decode cX1_addBlocks 29 = .ok (.iload 6, 2) := by decide +kernel
theorem dX1_addBlocks_31 : decode cX1_addBlocks 31 = .ok (.iload_n 2, 1) := by decide +kernel
theorem dX1_addBlocks_32 : decode cX1_addBlocks 32 = .ok (.if_icmp .gt 48, 3) := by decide +kernel
theorem dX1_addBlocks_35 : decode cX1_addBlocks 35 = .ok (.iload 6, 2) := by decide +kernel
theorem dX1_addBlocks_37 : decode cX1_addBlocks 37 = .ok (.iload_n 2, 1) := by decide +kernel
theorem dX1_addBlocks_38 : decode cX1_addBlocks 38 = .ok (.invokestatic 71, 3) := by decide +kernel
theorem dX1_addBlocks_41 : decode cX1_addBlocks 41 = .ok (.istore 8, 2) := by decide +kernel
theorem dX1_addBlocks_43 : decode cX1_addBlocks 43 = .ok (.aload_n 0, 1) := by decide +kernel
theorem dX1_addBlocks_44 : decode cX1_addBlocks 44 = .ok (.aload_n 0, 1) := by decide +kernel
theorem dX1_addBlocks_45 : decode cX1_addBlocks 45 = .ok (.iload_n 3, 1) := by decide +kernel
theorem dX1_addBlocks_46 : decode cX1_addBlocks 46 = .ok (.invokevirtual 64, 3) := by decide +kernel
theorem dX1_addBlocks_49 : decode cX1_addBlocks 49 = .ok (.iload 5, 2) := by decide +kernel
theorem dX1_addBlocks_51 : decode cX1_addBlocks 51 = .ok (.iload 7, 2) := by decide +kernel
theorem dX1_addBlocks_53 : decode cX1_addBlocks 53 = .ok (.sipush 256, 3) := by decide +kernel
theorem dX1_addBlocks_56 : decode cX1_addBlocks 56 = .ok (.iload 8, 2) := by decide +kernel
theorem dX1_addBlocks_58 : decode cX1_addBlocks 58 = .ok (.isub, 1) := by decide +kernel
theorem dX1_addBlocks_59 : decode cX1_addBlocks 59 = .ok (.iload 6, 2) := by decide +kernel
theorem dX1_addBlocks_61 : decode cX1_addBlocks 61 = .ok (.iload_n 3, 1) := by decide +kernel
theorem dX1_addBlocks_62 : decode cX1_addBlocks 62 = .ok (.iload 4, 2) := by decide +kernel
theorem dX1_addBlocks_64 : decode cX1_addBlocks 64 = .ok (.invokevirtual 67, 3) := by decide +kernel
theorem dX1_addBlocks_67 : decode cX1_addBlocks 67 = .ok (.iload 6, 2) := by decide +kernel
theorem dX1_addBlocks_69 : decode cX1_addBlocks 69 = .ok (.iload 8, 2) := by decide +kernel
theorem dX1_addBlocks_71 : decode cX1_addBlocks 71 = .ok (.iadd, 1) := by decide +kernel
theorem dX1_addBlocks_72 : decode cX1_addBlocks 72 = .ok (.istore 6, 2) := by decide +kernel
theorem dX1_addBlocks_74 : decode cX1_addBlocks 74 = .ok (.iinc 7 1, 3) := by decide +kernel
theorem dX1_addBlocks_77 : decode cX1_addBlocks 77 = .ok (.goto (-55), 3) := by decide +kernel
theorem dX1_addBlocks_80 : decode cX1_addBlocks 80 = .ok (.iload 5, 2) := by decide +kernel
theorem dX1_addBlocks_82 : decode cX1_addBlocks 82 = .ok (.ireturn, 1) := by decide +kernel
theorem dX1_fill_0 : decode cX1_fill 0 = .ok (.iload_n 1, 1) := by decide +kernel
theorem dX1_fill_1 : decode cX1_fill 1 = .ok (.invokestatic 49, 3) := by decide +kernel
theorem dX1_fill_4 : decode cX1_fill 4 = .ok (.ifCond .ne 4, 3) := by decide +kernel
theorem dX1_fill_7 : decode cX1_fill 7 = .ok (.return_, 1) := by decide +kernel
theorem dX1_fill_8 : decode cX1_fill 8 = .ok (.aload_n 0, 1) := by decide +kernel
theorem dX1_fill_9 : decode cX1_fill 9 = .ok (.getfield 9, 3) := by decide +kernel
theorem dX1_fill_12 : decode cX1_fill 12 = .ok (.iload_n 1, 1) := by decide +kernel
theorem dX1_fill_13 : decode cX1_fill 13 = .ok (.iload_n 2, 1) := by decide +kernel
theorem dX1_fill_14 : decode cX1_fill 14 = .ok (.iastore, 1) := by decide +kernel
theorem dX1_fill_15 : decode cX1_fill 15 = .ok (.aload_n 0, 1) := by decide +kernel
theorem dX1_fill_16 : decode cX1_fill 16 = .ok (.getfield 15, 3) := by decide +kernel
theorem dX1_fill_19 : decode cX1_fill 19 = .ok (.iload_n 1, 1) := by decide +kernel
theorem dX1_fill_20 : decode cX1_fill 20 = .ok (.iload_n 3, 1) := by decide +kernel
theorem dX1_fill_21 : decode cX1_fill 21 = .ok (.iastore, 1) := by decide +kernel
theorem dX1_fill_22 : decode cX1_fill 22 = .ok (.aload_n 0, 1) := by decide +kernel
theorem dX1_fill_23 : decode cX1_fill 23 = .ok (.getfield 18, 3) := by decide +kernel
theorem dX1_fill_26 : decode cX1_fill 26 = .ok (.iload_n 1, 1) := by decide +kernel
theorem dX1_fill_27 : decode cX1_fill 27 = .ok (.iload 4, 2) := by decide +kernel
theorem dX1_fill_29 : decode cX1_fill 29 = .ok (.iastore, 1) := by decide +kernel
theorem dX1_fill_30 : decode cX1_fill 30 = .ok (.aload_n 0, 1) := by decide +kernel
theorem dX1_fill_31 : decode cX1_fill 31 = .ok (.getfield 21, 3) := by decide +kernel
theorem dX1_fill_34 : decode cX1_fill 34 = .ok (.iload_n 1, 1) := by decide +kernel
theorem dX1_fill_35 : decode cX1_fill 35 = .ok (.iload 5, 2) := by decide +kernel
theorem dX1_fill_37 : decode cX1_fill 37 = .ok (.iload 4, 2) := by decide +kernel
theorem dX1_fill_39 : decode cX1_fill 39 = .ok (.iand, 1) := by decide +kernel
theorem dX1_fill_40 : decode cX1_fill 40 = .ok (.iastore, 1) := by decide +kernel
theorem dX1_fill_41 : decode cX1_fill 41 = .ok (.aload_n 0, 1) := by decide +kernel
theorem dX1_fill_42 : decode cX1_fill 42 = .ok (.getfield 24, 3) := by decide +kernel
theorem dX1_fill_45 : decode cX1_fill 45 = .ok (.iload_n 1, 1) := by decide +kernel
theorem dX1_fill_46 : decode cX1_fill 46 = .ok (.iload 6, 2) := by decide +kernel
theorem dX1_fill_48 : decode cX1_fill 48 = .ok (.iastore, 1) := by decide +kernel
theorem dX1_fill_49 : decode cX1_fill 49 = .ok (.aload_n 0, 1) := by decide +kernel
theorem dX1_fill_50 : decode cX1_fill 50 = .ok (.getfield 27, 3) := by decide +kernel
theorem dX1_fill_53 : decode cX1_fill 53 = .ok (.iload_n 1, 1) := by decide +kernel
theorem dX1_fill_54 : decode cX1_fill 54 = .ok (.iload 7, 2) := by decide +kernel
theorem dX1_fill_56 : decode cX1_fill 56 = .ok (.iastore, 1) := by decide +kernel
theorem dX1_fill_57 : decode cX1_fill 57 = .ok (.aload_n 0, 1) := by decide +kernel
theorem dX1_fill_58 : decode cX1_fill 58 = .ok (.getfield 30, 3) := by decide +kernel
theorem dX1_fill_61 : decode cX1_fill 61 = .ok (.iload_n 1, 1) := by decide +kernel
theorem dX1_fill_62 : decode cX1_fill 62 = .ok (.iconst 0, 1) := by decide +kernel
theorem dX1_fill_63 : decode cX1_fill 63 = .ok (.iastore, 1) := by decide +kernel
theorem dX1_fill_64 : decode cX1_fill 64 = .ok (.return_, 1) := by decide +kernel
theorem dX1_openSlot_0 : decode cX1_openSlot 0 = .ok (.aload_n 0, 1) := by decide +kernel
theorem dX1_openSlot_1 : decode cX1_openSlot 1 = .ok (.iload_n 1, 1) := by decide +kernel
theorem dX1_openSlot_2 : decode cX1_openSlot 2 = .ok (.invokevirtual 75, 3) := by decide +kernel
theorem dX1_openSlot_5 : decode cX1_openSlot 5 = .ok (.istore_n 2, 1) := by decide +kernel
theorem dX1_openSlot_6 : decode cX1_openSlot 6 = .ok (.aload_n 0, 1) := by decide +kernel
theorem dX1_openSlot_7 : decode cX1_openSlot 7 = .ok (.iload_n 1, 1) := by decide +kernel
theorem dX1_openSlot_8 : decode cX1_openSlot 8 = .ok (.invokevirtual 78, 3) := by decide +kernel
theorem dX1_openSlot_11 : decode cX1_openSlot 11 = .ok (.istore_n 3, 1) := by decide +kernel
theorem dX1_openSlot_12 : decode cX1_openSlot 12 = .ok (.iload_n 3, 1) := by decide +kernel
theorem dX1_openSlot_13 : decode cX1_openSlot 13 = .ok (.iload_n 2, 1) := by decide +kernel
theorem dX1_openSlot_14 : decode cX1_openSlot 14 = .ok (.isub, 1) := by decide +kernel
theorem dX1_openSlot_15 : decode cX1_openSlot 15 = .ok (.iconst 1, 1) := by decide +kernel
theorem dX1_openSlot_16 : decode cX1_openSlot 16 = .ok (.if_icmp .le 10, 3) := by decide +kernel
theorem dX1_openSlot_19 : decode cX1_openSlot 19 = .ok (.aload_n 0, 1) := by decide +kernel
theorem dX1_openSlot_20 : decode cX1_openSlot 20 = .ok (.iload_n 2, 1) := by decide +kernel
theorem dX1_openSlot_21 : decode cX1_openSlot 21 = .ok (.iload_n 3, 1) := by decide +kernel
theorem dX1_openSlot_22 : decode cX1_openSlot 22 = .ok (.invokevirtual 81, 3) := by decide +kernel
theorem dX1_openSlot_25 : decode cX1_openSlot 25 = .ok (.ireturn, 1) := by decide +kernel
theorem dX1_openSlot_26 : decode cX1_openSlot 26 = .ok (.aload_n 0, 1) := by decide +kernel
theorem dX1_openSlot_27 : decode cX1_openSlot 27 = .ok (.iload_n 3, 1) := by decide +kernel
theorem dX1_openSlot_28 : decode cX1_openSlot 28 = .ok (.invokevirtual 84, 3) := by decide +kernel
theorem dX1_openSlot_31 : decode cX1_openSlot 31 = .ok (.istore 4, 2) := by decide +kernel
theorem dX1_openSlot_33 : decode cX1_openSlot 33 = .ok (.aload_n 0, 1) := by decide +kernel
theorem dX1_openSlot_34 : decode cX1_openSlot 34 = .ok (.iload_n 2, 1) := by decide +kernel
theorem dX1_openSlot_35 : decode cX1_openSlot 35 = .ok (.invokevirtual 87, 3) := by decide +kernel
theorem dX1_openSlot_38 : decode cX1_openSlot 38 = .ok (.istore 5, 2) := by decide +kernel
theorem dX1_openSlot_40 : decode cX1_openSlot 40 = .ok (.iload 4, 2) := by decide +kernel
theorem dX1_openSlot_42 : decode cX1_openSlot 42 = .ok (.bipush 33, 2) := by decide +kernel
theorem dX1_openSlot_44 : decode cX1_openSlot 44 = .ok (.if_icmp .ne 12, 3) := by decide +kernel
theorem dX1_openSlot_47 : decode cX1_openSlot 47 = .ok (.iload 5, 2) := by decide +kernel
theorem dX1_openSlot_49 : decode cX1_openSlot 49 = .ok (.bipush 33, 2) := by decide +kernel
theorem dX1_openSlot_51 : decode cX1_openSlot 51 = .ok (.if_icmp .ne 5, 3) := by decide +kernel
theorem dX1_openSlot_54 : decode cX1_openSlot 54 = .ok (.iconst (-1), 1) := by decide +kernel
theorem dX1_openSlot_55 : decode cX1_openSlot 55 = .ok (.ireturn, 1) := by decide +kernel
theorem dX1_openSlot_56 : decode cX1_openSlot 56 = .ok (.iload 4, 2) := by decide +kernel
theorem dX1_openSlot_58 : decode cX1_openSlot 58 = .ok (.iload 5, 2) := by decide +kernel
theorem dX1_openSlot_60 : decode cX1_openSlot 60 = .ok (.if_icmp .gt 12, 3) := by decide +kernel
theorem dX1_openSlot_63 : decode cX1_openSlot 63 = .ok (.aload_n 0, 1) := by decide +kernel
theorem dX1_openSlot_64 : decode cX1_openSlot 64 = .ok (.iload_n 3, 1) := by decide +kernel
theorem dX1_openSlot_65 : decode cX1_openSlot 65 = .ok (.iload 4, 2) := by decide +kernel
theorem dX1_openSlot_67 : decode cX1_openSlot 67 = .ok (.invokevirtual 90, 3) := by decide +kernel
theorem dX1_openSlot_70 : decode cX1_openSlot 70 = .ok (.iload_n 3, 1) := by decide +kernel
theorem dX1_openSlot_71 : decode cX1_openSlot 71 = .ok (.ireturn, 1) := by decide +kernel
theorem dX1_openSlot_72 : decode cX1_openSlot 72 = .ok (.aload_n 0, 1) := by decide +kernel
theorem dX1_openSlot_73 : decode cX1_openSlot 73 = .ok (.iload_n 2, 1) := by decide +kernel
theorem dX1_openSlot_74 : decode cX1_openSlot 74 = .ok (.iload 5, 2) := by decide +kernel
theorem dX1_openSlot_76 : decode cX1_openSlot 76 = .ok (.invokevirtual 94, 3) := by decide +kernel
theorem dX1_openSlot_79 : decode cX1_openSlot 79 = .ok (.iload_n 2, 1) := by decide +kernel
theorem dX1_openSlot_80 : decode cX1_openSlot 80 = .ok (.ireturn, 1) := by decide +kernel
theorem dX1_movesFor_0 : decode cX1_movesFor 0 = .ok (.aload_n 0, 1) := by decide +kernel
theorem dX1_movesFor_1 : decode cX1_movesFor 1 = .ok (.iload_n 1, 1) := by decide +kernel
theorem dX1_movesFor_2 : decode cX1_movesFor 2 = .ok (.invokevirtual 75, 3) := by decide +kernel
theorem dX1_movesFor_5 : decode cX1_movesFor 5 = .ok (.istore_n 2, 1) := by decide +kernel
theorem dX1_movesFor_6 : decode cX1_movesFor 6 = .ok (.aload_n 0, 1) := by decide +kernel
theorem dX1_movesFor_7 : decode cX1_movesFor 7 = .ok (.iload_n 1, 1) := by decide +kernel
theorem dX1_movesFor_8 : decode cX1_movesFor 8 = .ok (.invokevirtual 78, 3) := by decide +kernel
theorem dX1_movesFor_11 : decode cX1_movesFor 11 = .ok (.istore_n 3, 1) := by decide +kernel
theorem dX1_movesFor_12 : decode cX1_movesFor 12 = .ok (.iload_n 3, 1) := by decide +kernel
theorem dX1_movesFor_13 : decode cX1_movesFor 13 = .ok (.iload_n 2, 1) := by decide +kernel
theorem dX1_movesFor_14 : decode cX1_movesFor 14 = .ok (.isub, 1) := by decide +kernel
theorem dX1_movesFor_15 : decode cX1_movesFor 15 = .ok (.iconst 1, 1) := by decide +kernel
theorem dX1_movesFor_16 : decode cX1_movesFor 16 = .ok (.if_icmp .le 5, 3) := by decide +kernel
theorem dX1_movesFor_19 : decode cX1_movesFor 19 = .ok (.iconst 0, 1) := by decide +kernel
theorem dX1_movesFor_20 : decode cX1_movesFor 20 = .ok (.ireturn, 1) := by decide +kernel
theorem dX1_movesFor_21 : decode cX1_movesFor 21 = .ok (.aload_n 0, 1) := by decide +kernel
theorem dX1_movesFor_22 : decode cX1_movesFor 22 = .ok (.iload_n 3, 1) := by decide +kernel
theorem dX1_movesFor_23 : decode cX1_movesFor 23 = .ok (.invokevirtual 84, 3) := by decide +kernel
theorem dX1_movesFor_26 : decode cX1_movesFor 26 = .ok (.aload_n 0, 1) := by decide +kernel
theorem dX1_movesFor_27 : decode cX1_movesFor 27 = .ok (.iload_n 2, 1) := by decide +kernel
theorem dX1_movesFor_28 : decode cX1_movesFor 28 = .ok (.invokevirtual 87, 3) := by decide +kernel
theorem dX1_movesFor_31 : decode cX1_movesFor 31 = .ok (.invokestatic 97, 3) := by decide +kernel
theorem dX1_movesFor_34 : decode cX1_movesFor 34 = .ok (.ireturn, 1) := by decide +kernel
theorem dX1_lastSlotUpTo_0 : decode cX1_lastSlotUpTo 0 = .ok (.bipush 31, 2) := by decide +kernel
theorem dX1_lastSlotUpTo_2 : decode cX1_lastSlotUpTo 2 = .ok (.istore_n 2, 1) := by decide +kernel
theorem dX1_lastSlotUpTo_3 : decode cX1_lastSlotUpTo 3 = .ok (.iload_n 2, 1) := by decide +kernel
theorem dX1_lastSlotUpTo_4 : decode cX1_lastSlotUpTo 4 = .ok (.ifCond .lt 29, 3) := by decide +kernel
theorem dX1_lastSlotUpTo_7 : decode cX1_lastSlotUpTo 7 = .ok (.aload_n 0, 1) := by decide +kernel
theorem dX1_lastSlotUpTo_8 : decode cX1_lastSlotUpTo 8 = .ok (.iload_n 2, 1) := by decide +kernel
theorem dX1_lastSlotUpTo_9 : decode cX1_lastSlotUpTo 9 = .ok (.invokevirtual 53, 3) := by decide +kernel
theorem dX1_lastSlotUpTo_12 : decode cX1_lastSlotUpTo 12 = .ok (.ifCond .eq 15, 3) := by decide +kernel
theorem dX1_lastSlotUpTo_15 : decode cX1_lastSlotUpTo 15 = .ok (.aload_n 0, 1) := by decide +kernel
theorem dX1_lastSlotUpTo_16 : decode cX1_lastSlotUpTo 16 = .ok (.getfield 24, 3) := by decide +kernel
theorem dX1_lastSlotUpTo_19 : decode cX1_lastSlotUpTo 19 = .ok (.iload_n 2, 1) := by decide +kernel
theorem dX1_lastSlotUpTo_20 : decode cX1_lastSlotUpTo 20 = .ok (.iaload, 1) := by decide +kernel
theorem dX1_lastSlotUpTo_21 : decode cX1_lastSlotUpTo 21 = .ok (.iload_n 1, 1) := by decide +kernel
theorem dX1_lastSlotUpTo_22 : decode cX1_lastSlotUpTo 22 = .ok (.if_icmp .gt 5, 3) := by decide +kernel
theorem dX1_lastSlotUpTo_25 : decode cX1_lastSlotUpTo 25 = .ok (.iload_n 2, 1) := by decide +kernel
theorem dX1_lastSlotUpTo_26 : decode cX1_lastSlotUpTo 26 = .ok (.ireturn, 1) := by decide +kernel
theorem dX1_lastSlotUpTo_27 : decode cX1_lastSlotUpTo 27 = .ok (.iinc 2 (-1), 3) := by decide +kernel
theorem dX1_lastSlotUpTo_30 : decode cX1_lastSlotUpTo 30 = .ok (.goto (-27), 3) := by decide +kernel
theorem dX1_lastSlotUpTo_33 : decode cX1_lastSlotUpTo 33 = .ok (.iconst (-1), 1) := by decide +kernel
theorem dX1_lastSlotUpTo_34 : decode cX1_lastSlotUpTo 34 = .ok (.ireturn, 1) := by decide +kernel
theorem dX1_firstSlotBeyond_0 : decode cX1_firstSlotBeyond 0 = .ok (.iconst 0, 1) := by decide +kernel
theorem dX1_firstSlotBeyond_1 : decode cX1_firstSlotBeyond 1 = .ok (.istore_n 2, 1) := by decide +kernel
theorem dX1_firstSlotBeyond_2 : decode cX1_firstSlotBeyond 2 = .ok (.iload_n 2, 1) := by decide +kernel
theorem dX1_firstSlotBeyond_3 : decode cX1_firstSlotBeyond 3 = .ok (.bipush 32, 2) := by decide +kernel
theorem dX1_firstSlotBeyond_5 : decode cX1_firstSlotBeyond 5 = .ok (.if_icmp .ge 29, 3) := by decide +kernel
theorem dX1_firstSlotBeyond_8 : decode cX1_firstSlotBeyond 8 = .ok (.aload_n 0, 1) := by decide +kernel
theorem dX1_firstSlotBeyond_9 : decode cX1_firstSlotBeyond 9 = .ok (.iload_n 2, 1) := by decide +kernel
theorem dX1_firstSlotBeyond_10 : decode cX1_firstSlotBeyond 10 = .ok (.invokevirtual 53, 3) := by decide +kernel
theorem dX1_firstSlotBeyond_13 : decode cX1_firstSlotBeyond 13 = .ok (.ifCond .eq 15, 3) := by decide +kernel
theorem dX1_firstSlotBeyond_16 : decode cX1_firstSlotBeyond 16 = .ok (.aload_n 0, 1) := by decide +kernel
theorem dX1_firstSlotBeyond_17 : decode cX1_firstSlotBeyond 17 = .ok (.getfield 24, 3) := by decide +kernel
theorem dX1_firstSlotBeyond_20 : decode cX1_firstSlotBeyond 20 = .ok (.iload_n 2, 1) := by decide +kernel
theorem dX1_firstSlotBeyond_21 : decode cX1_firstSlotBeyond 21 = .ok (.iaload, 1) := by decide +kernel
theorem dX1_firstSlotBeyond_22 : decode cX1_firstSlotBeyond 22 = .ok (.iload_n 1, 1) := by decide +kernel
theorem dX1_firstSlotBeyond_23 : decode cX1_firstSlotBeyond 23 = .ok (.if_icmp .le 5, 3) := by decide +kernel
theorem dX1_firstSlotBeyond_26 : decode cX1_firstSlotBeyond 26 = .ok (.iload_n 2, 1) := by decide +kernel
theorem dX1_firstSlotBeyond_27 : decode cX1_firstSlotBeyond 27 = .ok (.ireturn, 1) := by decide +kernel
theorem dX1_firstSlotBeyond_28 : decode cX1_firstSlotBeyond 28 = .ok (.iinc 2 1, 3) := by decide +kernel
theorem dX1_firstSlotBeyond_31 : decode cX1_firstSlotBeyond 31 = .ok (.goto (-29), 3) := by decide +kernel
theorem dX1_firstSlotBeyond_34 : decode cX1_firstSlotBeyond 34 = .ok (.bipush 32, 2) := by decide +kernel
theorem dX1_firstSlotBeyond_36 : decode cX1_firstSlotBeyond 36 = .ok (.ireturn, 1) := by decide +kernel
theorem dX1_placeBetween_0 : decode cX1_placeBetween 0 = .ok (.aload_n 0, 1) := by decide +kernel
theorem dX1_placeBetween_1 : decode cX1_placeBetween 1 = .ok (.getfield 33, 3) := by decide +kernel
theorem dX1_placeBetween_4 : decode cX1_placeBetween 4 = .ok (.ifCond .ne 7, 3) := by decide +kernel
theorem dX1_placeBetween_7 : decode cX1_placeBetween 7 = .ok (.iload_n 1, 1) := by decide +kernel
theorem dX1_placeBetween_8 : decode cX1_placeBetween 8 = .ok (.iconst 1, 1) := by decide +kernel
theorem dX1_placeBetween_9 : decode cX1_placeBetween 9 = .ok (.iadd, 1) := by decide +kernel
theorem dX1_placeBetween_10 : decode cX1_placeBetween 10 = .ok (.ireturn, 1) := by decide +kernel
theorem dX1_placeBetween_11 : decode cX1_placeBetween 11 = .ok (.aload_n 0, 1) := by decide +kernel
theorem dX1_placeBetween_12 : decode cX1_placeBetween 12 = .ok (.getfield 33, 3) := by decide +kernel
theorem dX1_placeBetween_15 : decode cX1_placeBetween 15 = .ok (.iconst 1, 1) := by decide +kernel
theorem dX1_placeBetween_16 : decode cX1_placeBetween 16 = .ok (.if_icmp .ne 11, 3) := by decide +kernel
theorem dX1_placeBetween_19 : decode cX1_placeBetween 19 = .ok (.iload_n 1, 1) := by decide +kernel
theorem dX1_placeBetween_20 : decode cX1_placeBetween 20 = .ok (.iload_n 2, 1) := by decide +kernel
theorem dX1_placeBetween_21 : decode cX1_placeBetween 21 = .ok (.iadd, 1) := by decide +kernel
theorem dX1_placeBetween_22 : decode cX1_placeBetween 22 = .ok (.iconst 2, 1) := by decide +kernel
theorem dX1_placeBetween_23 : decode cX1_placeBetween 23 = .ok (.idiv, 1) := by decide +kernel
theorem dX1_placeBetween_24 : decode cX1_placeBetween 24 = .ok (.goto 6, 3) := by decide +kernel
theorem dX1_placeBetween_27 : decode cX1_placeBetween 27 = .ok (.iload_n 2, 1) := by decide +kernel
theorem dX1_placeBetween_28 : decode cX1_placeBetween 28 = .ok (.iconst 1, 1) := by decide +kernel
theorem dX1_placeBetween_29 : decode cX1_placeBetween 29 = .ok (.isub, 1) := by decide +kernel
theorem dX1_placeBetween_30 : decode cX1_placeBetween 30 = .ok (.ireturn, 1) := by decide +kernel
theorem dX1_movesUpFrom_0 : decode cX1_movesUpFrom 0 = .ok (.iload_n 1, 1) := by decide +kernel
theorem dX1_movesUpFrom_1 : decode cX1_movesUpFrom 1 = .ok (.istore_n 2, 1) := by decide +kernel
theorem dX1_movesUpFrom_2 : decode cX1_movesUpFrom 2 = .ok (.iload_n 2, 1) := by decide +kernel
theorem dX1_movesUpFrom_3 : decode cX1_movesUpFrom 3 = .ok (.bipush 32, 2) := by decide +kernel
theorem dX1_movesUpFrom_5 : decode cX1_movesUpFrom 5 = .ok (.if_icmp .ge 21, 3) := by decide +kernel
theorem dX1_movesUpFrom_8 : decode cX1_movesUpFrom 8 = .ok (.aload_n 0, 1) := by decide +kernel
theorem dX1_movesUpFrom_9 : decode cX1_movesUpFrom 9 = .ok (.iload_n 2, 1) := by decide +kernel
theorem dX1_movesUpFrom_10 : decode cX1_movesUpFrom 10 = .ok (.invokevirtual 53, 3) := by decide +kernel
theorem dX1_movesUpFrom_13 : decode cX1_movesUpFrom 13 = .ok (.ifCond .ne 7, 3) := by decide +kernel
theorem dX1_movesUpFrom_16 : decode cX1_movesUpFrom 16 = .ok (.iload_n 2, 1) := by decide +kernel
theorem dX1_movesUpFrom_17 : decode cX1_movesUpFrom 17 = .ok (.iload_n 1, 1) := by decide +kernel
theorem dX1_movesUpFrom_18 : decode cX1_movesUpFrom 18 = .ok (.isub, 1) := by decide +kernel
theorem dX1_movesUpFrom_19 : decode cX1_movesUpFrom 19 = .ok (.ireturn, 1) := by decide +kernel
theorem dX1_movesUpFrom_20 : decode cX1_movesUpFrom 20 = .ok (.iinc 2 1, 3) := by decide +kernel
theorem dX1_movesUpFrom_23 : decode cX1_movesUpFrom 23 = .ok (.goto (-21), 3) := by decide +kernel
theorem dX1_movesUpFrom_26 : decode cX1_movesUpFrom 26 = .ok (.bipush 33, 2) := by decide +kernel
theorem dX1_movesUpFrom_28 : decode cX1_movesUpFrom 28 = .ok (.ireturn, 1) := by decide +kernel
theorem dX1_movesDownFrom_0 : decode cX1_movesDownFrom 0 = .ok (.iload_n 1, 1) := by decide +kernel
theorem dX1_movesDownFrom_1 : decode cX1_movesDownFrom 1 = .ok (.istore_n 2, 1) := by decide +kernel
theorem dX1_movesDownFrom_2 : decode cX1_movesDownFrom 2 = .ok (.iload_n 2, 1) := by decide +kernel
theorem dX1_movesDownFrom_3 : decode cX1_movesDownFrom 3 = .ok (.ifCond .lt 21, 3) := by decide +kernel
theorem dX1_movesDownFrom_6 : decode cX1_movesDownFrom 6 = .ok (.aload_n 0, 1) := by decide +kernel
theorem dX1_movesDownFrom_7 : decode cX1_movesDownFrom 7 = .ok (.iload_n 2, 1) := by decide +kernel
theorem dX1_movesDownFrom_8 : decode cX1_movesDownFrom 8 = .ok (.invokevirtual 53, 3) := by decide +kernel
theorem dX1_movesDownFrom_11 : decode cX1_movesDownFrom 11 = .ok (.ifCond .ne 7, 3) := by decide +kernel
theorem dX1_movesDownFrom_14 : decode cX1_movesDownFrom 14 = .ok (.iload_n 1, 1) := by decide +kernel
theorem dX1_movesDownFrom_15 : decode cX1_movesDownFrom 15 = .ok (.iload_n 2, 1) := by decide +kernel
theorem dX1_movesDownFrom_16 : decode cX1_movesDownFrom 16 = .ok (.isub, 1) := by decide +kernel
theorem dX1_movesDownFrom_17 : decode cX1_movesDownFrom 17 = .ok (.ireturn, 1) := by decide +kernel
theorem dX1_movesDownFrom_18 : decode cX1_movesDownFrom 18 = .ok (.iinc 2 (-1), 3) := by decide +kernel
theorem dX1_movesDownFrom_21 : decode cX1_movesDownFrom 21 = .ok (.goto (-19), 3) := by decide +kernel
theorem dX1_movesDownFrom_24 : decode cX1_movesDownFrom 24 = .ok (.bipush 33, 2) := by decide +kernel
theorem dX1_movesDownFrom_26 : decode cX1_movesDownFrom 26 = .ok (.ireturn, 1) := by decide +kernel
theorem dX1_moveUp_0 : decode cX1_moveUp 0 = .ok (.iload_n 1, 1) := by decide +kernel
theorem dX1_moveUp_1 : decode cX1_moveUp 1 = .ok (.iload_n 2, 1) := by decide +kernel
theorem dX1_moveUp_2 : decode cX1_moveUp 2 = .ok (.iadd, 1) := by decide +kernel
theorem dX1_moveUp_3 : decode cX1_moveUp 3 = .ok (.istore_n 3, 1) := by decide +kernel
theorem dX1_moveUp_4 : decode cX1_moveUp 4 = .ok (.iload_n 3, 1) := by decide +kernel
theorem dX1_moveUp_5 : decode cX1_moveUp 5 = .ok (.iload_n 1, 1) := by decide +kernel
theorem dX1_moveUp_6 : decode cX1_moveUp 6 = .ok (.if_icmp .le 17, 3) := by decide +kernel
theorem dX1_moveUp_9 : decode cX1_moveUp 9 = .ok (.aload_n 0, 1) := by decide +kernel
theorem dX1_moveUp_10 : decode cX1_moveUp 10 = .ok (.iload_n 3, 1) := by decide +kernel
theorem dX1_moveUp_11 : decode cX1_moveUp 11 = .ok (.iconst 1, 1) := by decide +kernel
theorem dX1_moveUp_12 : decode cX1_moveUp 12 = .ok (.isub, 1) := by decide +kernel
theorem dX1_moveUp_13 : decode cX1_moveUp 13 = .ok (.iload_n 3, 1) := by decide +kernel
theorem dX1_moveUp_14 : decode cX1_moveUp 14 = .ok (.invokevirtual 102, 3) := by decide +kernel
theorem dX1_moveUp_17 : decode cX1_moveUp 17 = .ok (.iinc 3 (-1), 3) := by decide +kernel
theorem dX1_moveUp_20 : decode cX1_moveUp 20 = .ok (.goto (-16), 3) := by decide +kernel
theorem dX1_moveUp_23 : decode cX1_moveUp 23 = .ok (.aload_n 0, 1) := by decide +kernel
theorem dX1_moveUp_24 : decode cX1_moveUp 24 = .ok (.dup, 1) := by decide +kernel
theorem dX1_moveUp_25 : decode cX1_moveUp 25 = .ok (.getfield 40, 3) := by decide +kernel
theorem dX1_moveUp_28 : decode cX1_moveUp 28 = .ok (.iload_n 2, 1) := by decide +kernel
theorem dX1_moveUp_29 : decode cX1_moveUp 29 = .ok (.iadd, 1) := by decide +kernel
theorem dX1_moveUp_30 : decode cX1_moveUp 30 = .ok (.putfield 40, 3) := by decide +kernel
theorem dX1_moveUp_33 : decode cX1_moveUp 33 = .ok (.return_, 1) := by decide +kernel
theorem dX1_moveDown_0 : decode cX1_moveDown 0 = .ok (.iload_n 1, 1) := by decide +kernel
theorem dX1_moveDown_1 : decode cX1_moveDown 1 = .ok (.iload_n 2, 1) := by decide +kernel
theorem dX1_moveDown_2 : decode cX1_moveDown 2 = .ok (.isub, 1) := by decide +kernel
theorem dX1_moveDown_3 : decode cX1_moveDown 3 = .ok (.istore_n 3, 1) := by decide +kernel
theorem dX1_moveDown_4 : decode cX1_moveDown 4 = .ok (.iload_n 3, 1) := by decide +kernel
theorem dX1_moveDown_5 : decode cX1_moveDown 5 = .ok (.iload_n 1, 1) := by decide +kernel
theorem dX1_moveDown_6 : decode cX1_moveDown 6 = .ok (.if_icmp .ge 17, 3) := by decide +kernel
theorem dX1_moveDown_9 : decode cX1_moveDown 9 = .ok (.aload_n 0, 1) := by decide +kernel
theorem dX1_moveDown_10 : decode cX1_moveDown 10 = .ok (.iload_n 3, 1) := by decide +kernel
theorem dX1_moveDown_11 : decode cX1_moveDown 11 = .ok (.iconst 1, 1) := by decide +kernel
theorem dX1_moveDown_12 : decode cX1_moveDown 12 = .ok (.iadd, 1) := by decide +kernel
theorem dX1_moveDown_13 : decode cX1_moveDown 13 = .ok (.iload_n 3, 1) := by decide +kernel
theorem dX1_moveDown_14 : decode cX1_moveDown 14 = .ok (.invokevirtual 102, 3) := by decide +kernel
theorem dX1_moveDown_17 : decode cX1_moveDown 17 = .ok (.iinc 3 1, 3) := by decide +kernel
theorem dX1_moveDown_20 : decode cX1_moveDown 20 = .ok (.goto (-16), 3) := by decide +kernel
theorem dX1_moveDown_23 : decode cX1_moveDown 23 = .ok (.aload_n 0, 1) := by decide +kernel
theorem dX1_moveDown_24 : decode cX1_moveDown 24 = .ok (.dup, 1) := by decide +kernel
theorem dX1_moveDown_25 : decode cX1_moveDown 25 = .ok (.getfield 40, 3) := by decide +kernel
theorem dX1_moveDown_28 : decode cX1_moveDown 28 = .ok (.iload_n 2, 1) := by decide +kernel
theorem dX1_moveDown_29 : decode cX1_moveDown 29 = .ok (.iadd, 1) := by decide +kernel
theorem dX1_moveDown_30 : decode cX1_moveDown 30 = .ok (.putfield 40, 3) := by decide +kernel
theorem dX1_moveDown_33 : decode cX1_moveDown 33 = .ok (.return_, 1) := by decide +kernel
theorem dX1_moveEntry_0 : decode cX1_moveEntry 0 = .ok (.iload_n 1, 1) := by decide +kernel
theorem dX1_moveEntry_1 : decode cX1_moveEntry 1 = .ok (.iload_n 2, 1) := by decide +kernel
theorem dX1_moveEntry_2 : decode cX1_moveEntry 2 = .ok (.if_icmp .eq 17, 3) := by decide +kernel
theorem dX1_moveEntry_5 : decode cX1_moveEntry 5 = .ok (.iload_n 1, 1) := by decide +kernel
theorem dX1_moveEntry_6 : decode cX1_moveEntry 6 = .ok (.invokestatic 49, 3) := by decide +kernel
theorem dX1_moveEntry_9 : decode cX1_moveEntry 9 = .ok (.ifCond .eq 10, 3) := by decide +kernel
theorem dX1_moveEntry_12 : decode cX1_moveEntry 12 = .ok (.iload_n 2, 1) := by decide +kernel
theorem dX1_moveEntry_13 : decode cX1_moveEntry 13 = .ok (.invokestatic 49, 3) := by decide +kernel
theorem dX1_moveEntry_16 : decode cX1_moveEntry 16 = .ok (.ifCond .ne 4, 3) := by decide +kernel
theorem dX1_moveEntry_19 : decode cX1_moveEntry 19 = .ok (.return_, 1) := by decide +kernel
theorem dX1_moveEntry_20 : decode cX1_moveEntry 20 = .ok (.aload_n 0, 1) := by decide +kernel
theorem dX1_moveEntry_21 : decode cX1_moveEntry 21 = .ok (.getfield 9, 3) := by decide +kernel
theorem dX1_moveEntry_24 : decode cX1_moveEntry 24 = .ok (.iload_n 2, 1) := by decide +kernel
theorem dX1_moveEntry_25 : decode cX1_moveEntry 25 = .ok (.aload_n 0, 1) := by decide +kernel
theorem dX1_moveEntry_26 : decode cX1_moveEntry 26 = .ok (.getfield 9, 3) := by decide +kernel
theorem dX1_moveEntry_29 : decode cX1_moveEntry 29 = .ok (.iload_n 1, 1) := by decide +kernel
theorem dX1_moveEntry_30 : decode cX1_moveEntry 30 = .ok (.iaload, 1) := by decide +kernel
theorem dX1_moveEntry_31 : decode cX1_moveEntry 31 = .ok (.iastore, 1) := by decide +kernel
theorem dX1_moveEntry_32 : decode cX1_moveEntry 32 = .ok (.aload_n 0, 1) := by decide +kernel
theorem dX1_moveEntry_33 : decode cX1_moveEntry 33 = .ok (.getfield 15, 3) := by decide +kernel
theorem dX1_moveEntry_36 : decode cX1_moveEntry 36 = .ok (.iload_n 2, 1) := by decide +kernel
theorem dX1_moveEntry_37 : decode cX1_moveEntry 37 = .ok (.aload_n 0, 1) := by decide +kernel
theorem dX1_moveEntry_38 : decode cX1_moveEntry 38 = .ok (.getfield 15, 3) := by decide +kernel
theorem dX1_moveEntry_41 : decode cX1_moveEntry 41 = .ok (.iload_n 1, 1) := by decide +kernel
theorem dX1_moveEntry_42 : decode cX1_moveEntry 42 = .ok (.iaload, 1) := by decide +kernel
theorem dX1_moveEntry_43 : decode cX1_moveEntry 43 = .ok (.iastore, 1) := by decide +kernel
theorem dX1_moveEntry_44 : decode cX1_moveEntry 44 = .ok (.aload_n 0, 1) := by decide +kernel
theorem dX1_moveEntry_45 : decode cX1_moveEntry 45 = .ok (.getfield 18, 3) := by decide +kernel
theorem dX1_moveEntry_48 : decode cX1_moveEntry 48 = .ok (.iload_n 2, 1) := by decide +kernel
theorem dX1_moveEntry_49 : decode cX1_moveEntry 49 = .ok (.aload_n 0, 1) := by decide +kernel
theorem dX1_moveEntry_50 : decode cX1_moveEntry 50 = .ok (.getfield 18, 3) := by decide +kernel
theorem dX1_moveEntry_53 : decode cX1_moveEntry 53 = .ok (.iload_n 1, 1) := by decide +kernel
theorem dX1_moveEntry_54 : decode cX1_moveEntry 54 = .ok (.iaload, 1) := by decide +kernel
theorem dX1_moveEntry_55 : decode cX1_moveEntry 55 = .ok (.iastore, 1) := by decide +kernel
theorem dX1_moveEntry_56 : decode cX1_moveEntry 56 = .ok (.aload_n 0, 1) := by decide +kernel
theorem dX1_moveEntry_57 : decode cX1_moveEntry 57 = .ok (.getfield 21, 3) := by decide +kernel
theorem dX1_moveEntry_60 : decode cX1_moveEntry 60 = .ok (.iload_n 2, 1) := by decide +kernel
theorem dX1_moveEntry_61 : decode cX1_moveEntry 61 = .ok (.aload_n 0, 1) := by decide +kernel
theorem dX1_moveEntry_62 : decode cX1_moveEntry 62 = .ok (.getfield 21, 3) := by decide +kernel
theorem dX1_moveEntry_65 : decode cX1_moveEntry 65 = .ok (.iload_n 1, 1) := by decide +kernel
theorem dX1_moveEntry_66 : decode cX1_moveEntry 66 = .ok (.iaload, 1) := by decide +kernel
theorem dX1_moveEntry_67 : decode cX1_moveEntry 67 = .ok (.iastore, 1) := by decide +kernel
theorem dX1_moveEntry_68 : decode cX1_moveEntry 68 = .ok (.aload_n 0, 1) := by decide +kernel
theorem dX1_moveEntry_69 : decode cX1_moveEntry 69 = .ok (.getfield 24, 3) := by decide +kernel
theorem dX1_moveEntry_72 : decode cX1_moveEntry 72 = .ok (.iload_n 2, 1) := by decide +kernel
theorem dX1_moveEntry_73 : decode cX1_moveEntry 73 = .ok (.aload_n 0, 1) := by decide +kernel
theorem dX1_moveEntry_74 : decode cX1_moveEntry 74 = .ok (.getfield 24, 3) := by decide +kernel
theorem dX1_moveEntry_77 : decode cX1_moveEntry 77 = .ok (.iload_n 1, 1) := by decide +kernel
theorem dX1_moveEntry_78 : decode cX1_moveEntry 78 = .ok (.iaload, 1) := by decide +kernel
theorem dX1_moveEntry_79 : decode cX1_moveEntry 79 = .ok (.iastore, 1) := by decide +kernel
theorem dX1_moveEntry_80 : decode cX1_moveEntry 80 = .ok (.aload_n 0, 1) := by decide +kernel
theorem dX1_moveEntry_81 : decode cX1_moveEntry 81 = .ok (.getfield 27, 3) := by decide +kernel
theorem dX1_moveEntry_84 : decode cX1_moveEntry 84 = .ok (.iload_n 2, 1) := by decide +kernel
theorem dX1_moveEntry_85 : decode cX1_moveEntry 85 = .ok (.aload_n 0, 1) := by decide +kernel
theorem dX1_moveEntry_86 : decode cX1_moveEntry 86 = .ok (.getfield 27, 3) := by decide +kernel
theorem dX1_moveEntry_89 : decode cX1_moveEntry 89 = .ok (.iload_n 1, 1) := by decide +kernel
theorem dX1_moveEntry_90 : decode cX1_moveEntry 90 = .ok (.iaload, 1) := by decide +kernel
theorem dX1_moveEntry_91 : decode cX1_moveEntry 91 = .ok (.iastore, 1) := by decide +kernel
theorem dX1_moveEntry_92 : decode cX1_moveEntry 92 = .ok (.aload_n 0, 1) := by decide +kernel
theorem dX1_moveEntry_93 : decode cX1_moveEntry 93 = .ok (.getfield 30, 3) := by decide +kernel
theorem dX1_moveEntry_96 : decode cX1_moveEntry 96 = .ok (.iload_n 2, 1) := by decide +kernel
theorem dX1_moveEntry_97 : decode cX1_moveEntry 97 = .ok (.aload_n 0, 1) := by decide +kernel
theorem dX1_moveEntry_98 : decode cX1_moveEntry 98 = .ok (.getfield 30, 3) := by decide +kernel
theorem dX1_moveEntry_101 : decode cX1_moveEntry 101 = .ok (.iload_n 1, 1) := by decide +kernel
theorem dX1_moveEntry_102 : decode cX1_moveEntry 102 = .ok (.iaload, 1) := by decide +kernel
theorem dX1_moveEntry_103 : decode cX1_moveEntry 103 = .ok (.iastore, 1) := by decide +kernel
theorem dX1_moveEntry_104 : decode cX1_moveEntry 104 = .ok (.aload_n 0, 1) := by decide +kernel
theorem dX1_moveEntry_105 : decode cX1_moveEntry 105 = .ok (.getfield 9, 3) := by decide +kernel
theorem dX1_moveEntry_108 : decode cX1_moveEntry 108 = .ok (.iload_n 1, 1) := by decide +kernel
theorem dX1_moveEntry_109 : decode cX1_moveEntry 109 = .ok (.iconst (-1), 1) := by decide +kernel
theorem dX1_moveEntry_110 : decode cX1_moveEntry 110 = .ok (.iastore, 1) := by decide +kernel
theorem dX1_moveEntry_111 : decode cX1_moveEntry 111 = .ok (.return_, 1) := by decide +kernel
theorem dX1_firstSlotOfShare_0 : decode cX1_firstSlotOfShare 0 = .ok (.iload_n 1, 1) := by decide +kernel
theorem dX1_firstSlotOfShare_1 : decode cX1_firstSlotOfShare 1 = .ok (.ifCond .le 12, 3) := by decide +kernel
theorem dX1_firstSlotOfShare_4 : decode cX1_firstSlotOfShare 4 = .ok (.bipush 32, 2) := by decide +kernel
theorem dX1_firstSlotOfShare_6 : decode cX1_firstSlotOfShare 6 = .ok (.iload_n 0, 1) := by decide +kernel
theorem dX1_firstSlotOfShare_7 : decode cX1_firstSlotOfShare 7 = .ok (.imul, 1) := by decide +kernel
theorem dX1_firstSlotOfShare_8 : decode cX1_firstSlotOfShare 8 = .ok (.iload_n 1, 1) := by decide +kernel
theorem dX1_firstSlotOfShare_9 : decode cX1_firstSlotOfShare 9 = .ok (.idiv, 1) := by decide +kernel
theorem dX1_firstSlotOfShare_10 : decode cX1_firstSlotOfShare 10 = .ok (.goto 4, 3) := by decide +kernel
theorem dX1_firstSlotOfShare_13 : decode cX1_firstSlotOfShare 13 = .ok (.iload_n 0, 1) := by decide +kernel
theorem dX1_firstSlotOfShare_14 : decode cX1_firstSlotOfShare 14 = .ok (.ireturn, 1) := by decide +kernel
theorem dX1_entriesOutOfShare_0 : decode cX1_entriesOutOfShare 0 = .ok (.iconst 0, 1) := by decide +kernel
theorem dX1_entriesOutOfShare_1 : decode cX1_entriesOutOfShare 1 = .ok (.istore_n 2, 1) := by decide +kernel
theorem dX1_entriesOutOfShare_2 : decode cX1_entriesOutOfShare 2 = .ok (.iconst 0, 1) := by decide +kernel
theorem dX1_entriesOutOfShare_3 : decode cX1_entriesOutOfShare 3 = .ok (.istore_n 3, 1) := by decide +kernel
theorem dX1_entriesOutOfShare_4 : decode cX1_entriesOutOfShare 4 = .ok (.iconst 0, 1) := by decide +kernel
theorem dX1_entriesOutOfShare_5 : decode cX1_entriesOutOfShare 5 = .ok (.istore 4, 2) := by decide +kernel
theorem dX1_entriesOutOfShare_7 : decode cX1_entriesOutOfShare 7 = .ok (.iload 4, 2) := by decide +kernel
theorem dX1_entriesOutOfShare_9 : decode cX1_entriesOutOfShare 9 = .ok (.bipush 32, 2) := by decide +kernel
theorem dX1_entriesOutOfShare_11 : decode cX1_entriesOutOfShare 11 = .ok (.if_icmp .ge 34, 3) := by decide +kernel
theorem dX1_entriesOutOfShare_14 : decode cX1_entriesOutOfShare 14 = .ok (.aload_n 0, 1) := by decide +kernel
theorem dX1_entriesOutOfShare_15 : decode cX1_entriesOutOfShare 15 = .ok (.iload 4, 2) := by decide +kernel
theorem dX1_entriesOutOfShare_17 : decode cX1_entriesOutOfShare 17 = .ok (.invokevirtual 53, 3) := by decide +kernel
theorem dX1_entriesOutOfShare_20 : decode cX1_entriesOutOfShare 20 = .ok (.ifCond .eq 19, 3) := by decide +kernel
theorem dX1_entriesOutOfShare_23 : decode cX1_entriesOutOfShare 23 = .ok (.iload 4, 2) := by decide +kernel
theorem dX1_entriesOutOfShare_25 : decode cX1_entriesOutOfShare 25 = .ok (.iload_n 2, 1) := by decide +kernel
theorem dX1_entriesOutOfShare_26 : decode cX1_entriesOutOfShare 26 = .ok (.iload_n 1, 1) := by decide +kernel
theorem dX1_entriesOutOfShare_27 : decode cX1_entriesOutOfShare 27 = .ok (.invokestatic 105, 3) := by decide +kernel
theorem dX1_entriesOutOfShare_30 : decode cX1_entriesOutOfShare 30 = .ok (.if_icmp .eq 6, 3) := by decide +kernel
theorem dX1_entriesOutOfShare_33 : decode cX1_entriesOutOfShare 33 = .ok (.iinc 3 1, 3) := by decide +kernel
theorem dX1_entriesOutOfShare_36 : decode cX1_entriesOutOfShare 36 = .ok (.iinc 2 1, 3) := by decide +kernel
theorem dX1_entriesOutOfShare_39 : decode cX1_entriesOutOfShare 39 = .ok (.iinc 4 1, 3) := by decide +kernel
theorem dX1_entriesOutOfShare_42 : decode cX1_entriesOutOfShare 42 = .ok (.goto (-35), 3) := by decide +kernel
theorem dX1_entriesOutOfShare_45 : decode cX1_entriesOutOfShare 45 = .ok (.iload_n 3, 1) := by decide +kernel
theorem dX1_entriesOutOfShare_46 : decode cX1_entriesOutOfShare 46 = .ok (.ireturn, 1) := by decide +kernel
theorem dX1_moveIntoShares_0 : decode cX1_moveIntoShares 0 = .ok (.aload_n 0, 1) := by decide +kernel
theorem dX1_moveIntoShares_1 : decode cX1_moveIntoShares 1 = .ok (.invokevirtual 108, 3) := by decide +kernel
theorem dX1_moveIntoShares_4 : decode cX1_moveIntoShares 4 = .ok (.istore_n 2, 1) := by decide +kernel
theorem dX1_moveIntoShares_5 : decode cX1_moveIntoShares 5 = .ok (.iload_n 2, 1) := by decide +kernel
theorem dX1_moveIntoShares_6 : decode cX1_moveIntoShares 6 = .ok (.iconst 1, 1) := by decide +kernel
theorem dX1_moveIntoShares_7 : decode cX1_moveIntoShares 7 = .ok (.isub, 1) := by decide +kernel
theorem dX1_moveIntoShares_8 : decode cX1_moveIntoShares 8 = .ok (.istore_n 3, 1) := by decide +kernel
theorem dX1_moveIntoShares_9 : decode cX1_moveIntoShares 9 = .ok (.iload_n 3, 1) := by decide +kernel
theorem dX1_moveIntoShares_10 : decode cX1_moveIntoShares 10 = .ok (.ifCond .lt 19, 3) := by decide +kernel
theorem dX1_moveIntoShares_13 : decode cX1_moveIntoShares 13 = .ok (.aload_n 0, 1) := by decide +kernel
theorem dX1_moveIntoShares_14 : decode cX1_moveIntoShares 14 = .ok (.iload_n 3, 1) := by decide +kernel
theorem dX1_moveIntoShares_15 : decode cX1_moveIntoShares 15 = .ok (.iload_n 3, 1) := by decide +kernel
theorem dX1_moveIntoShares_16 : decode cX1_moveIntoShares 16 = .ok (.iload_n 1, 1) := by decide +kernel
theorem dX1_moveIntoShares_17 : decode cX1_moveIntoShares 17 = .ok (.invokestatic 105, 3) := by decide +kernel
theorem dX1_moveIntoShares_20 : decode cX1_moveIntoShares 20 = .ok (.invokevirtual 102, 3) := by decide +kernel
theorem dX1_moveIntoShares_23 : decode cX1_moveIntoShares 23 = .ok (.iinc 3 (-1), 3) := by decide +kernel
theorem dX1_moveIntoShares_26 : decode cX1_moveIntoShares 26 = .ok (.goto (-17), 3) := by decide +kernel
theorem dX1_moveIntoShares_29 : decode cX1_moveIntoShares 29 = .ok (.return_, 1) := by decide +kernel
theorem dX1_moveToFront_0 : decode cX1_moveToFront 0 = .ok (.iconst 0, 1) := by decide +kernel
theorem dX1_moveToFront_1 : decode cX1_moveToFront 1 = .ok (.istore_n 1, 1) := by decide +kernel
theorem dX1_moveToFront_2 : decode cX1_moveToFront 2 = .ok (.iconst 0, 1) := by decide +kernel
theorem dX1_moveToFront_3 : decode cX1_moveToFront 3 = .ok (.istore_n 2, 1) := by decide +kernel
theorem dX1_moveToFront_4 : decode cX1_moveToFront 4 = .ok (.iload_n 2, 1) := by decide +kernel
theorem dX1_moveToFront_5 : decode cX1_moveToFront 5 = .ok (.bipush 32, 2) := by decide +kernel
theorem dX1_moveToFront_7 : decode cX1_moveToFront 7 = .ok (.if_icmp .ge 26, 3) := by decide +kernel
theorem dX1_moveToFront_10 : decode cX1_moveToFront 10 = .ok (.aload_n 0, 1) := by decide +kernel
theorem dX1_moveToFront_11 : decode cX1_moveToFront 11 = .ok (.iload_n 2, 1) := by decide +kernel
theorem dX1_moveToFront_12 : decode cX1_moveToFront 12 = .ok (.invokevirtual 53, 3) := by decide +kernel
theorem dX1_moveToFront_15 : decode cX1_moveToFront 15 = .ok (.ifCond .eq 12, 3) := by decide +kernel
theorem dX1_moveToFront_18 : decode cX1_moveToFront 18 = .ok (.aload_n 0, 1) := by decide +kernel
theorem dX1_moveToFront_19 : decode cX1_moveToFront 19 = .ok (.iload_n 2, 1) := by decide +kernel
theorem dX1_moveToFront_20 : decode cX1_moveToFront 20 = .ok (.iload_n 1, 1) := by decide +kernel
theorem dX1_moveToFront_21 : decode cX1_moveToFront 21 = .ok (.invokevirtual 102, 3) := by decide +kernel
theorem dX1_moveToFront_24 : decode cX1_moveToFront 24 = .ok (.iinc 1 1, 3) := by decide +kernel
theorem dX1_moveToFront_27 : decode cX1_moveToFront 27 = .ok (.iinc 2 1, 3) := by decide +kernel
theorem dX1_moveToFront_30 : decode cX1_moveToFront 30 = .ok (.goto (-26), 3) := by decide +kernel
theorem dX1_moveToFront_33 : decode cX1_moveToFront 33 = .ok (.iload_n 1, 1) := by decide +kernel
theorem dX1_moveToFront_34 : decode cX1_moveToFront 34 = .ok (.ireturn, 1) := by decide +kernel
theorem dX1_slotFoundBy_0 : decode cX1_slotFoundBy 0 = .ok (.iconst 0, 1) := by decide +kernel
theorem dX1_slotFoundBy_1 : decode cX1_slotFoundBy 1 = .ok (.istore_n 2, 1) := by decide +kernel
theorem dX1_slotFoundBy_2 : decode cX1_slotFoundBy 2 = .ok (.iload_n 2, 1) := by decide +kernel
theorem dX1_slotFoundBy_3 : decode cX1_slotFoundBy 3 = .ok (.bipush 32, 2) := by decide +kernel
theorem dX1_slotFoundBy_5 : decode cX1_slotFoundBy 5 = .ok (.if_icmp .ge 36, 3) := by decide +kernel
theorem dX1_slotFoundBy_8 : decode cX1_slotFoundBy 8 = .ok (.aload_n 0, 1) := by decide +kernel
theorem dX1_slotFoundBy_9 : decode cX1_slotFoundBy 9 = .ok (.iload_n 2, 1) := by decide +kernel
theorem dX1_slotFoundBy_10 : decode cX1_slotFoundBy 10 = .ok (.invokevirtual 53, 3) := by decide +kernel
theorem dX1_slotFoundBy_13 : decode cX1_slotFoundBy 13 = .ok (.ifCond .eq 22, 3) := by decide +kernel
theorem dX1_slotFoundBy_16 : decode cX1_slotFoundBy 16 = .ok (.iload_n 1, 1) := by decide +kernel
theorem dX1_slotFoundBy_17 : decode cX1_slotFoundBy 17 = .ok (.aload_n 0, 1) := by decide +kernel
theorem dX1_slotFoundBy_18 : decode cX1_slotFoundBy 18 = .ok (.getfield 18, 3) := by decide +kernel
theorem dX1_slotFoundBy_21 : decode cX1_slotFoundBy 21 = .ok (.iload_n 2, 1) := by decide +kernel
theorem dX1_slotFoundBy_22 : decode cX1_slotFoundBy 22 = .ok (.iaload, 1) := by decide +kernel
theorem dX1_slotFoundBy_23 : decode cX1_slotFoundBy 23 = .ok (.iand, 1) := by decide +kernel
theorem dX1_slotFoundBy_24 : decode cX1_slotFoundBy 24 = .ok (.aload_n 0, 1) := by decide +kernel
theorem dX1_slotFoundBy_25 : decode cX1_slotFoundBy 25 = .ok (.getfield 21, 3) := by decide +kernel
theorem dX1_slotFoundBy_28 : decode cX1_slotFoundBy 28 = .ok (.iload_n 2, 1) := by decide +kernel
theorem dX1_slotFoundBy_29 : decode cX1_slotFoundBy 29 = .ok (.iaload, 1) := by decide +kernel
theorem dX1_slotFoundBy_30 : decode cX1_slotFoundBy 30 = .ok (.if_icmp .ne 5, 3) := by decide +kernel
theorem dX1_slotFoundBy_33 : decode cX1_slotFoundBy 33 = .ok (.iload_n 2, 1) := by decide +kernel
theorem dX1_slotFoundBy_34 : decode cX1_slotFoundBy 34 = .ok (.ireturn, 1) := by decide +kernel
theorem dX1_slotFoundBy_35 : decode cX1_slotFoundBy 35 = .ok (.iinc 2 1, 3) := by decide +kernel
theorem dX1_slotFoundBy_38 : decode cX1_slotFoundBy 38 = .ok (.goto (-36), 3) := by decide +kernel
theorem dX1_slotFoundBy_41 : decode cX1_slotFoundBy 41 = .ok (.iconst (-1), 1) := by decide +kernel
theorem dX1_slotFoundBy_42 : decode cX1_slotFoundBy 42 = .ok (.ireturn, 1) := by decide +kernel
theorem dX1_keysFinding_0 : decode cX1_keysFinding 0 = .ok (.iconst 0, 1) := by decide +kernel
theorem dX1_keysFinding_1 : decode cX1_keysFinding 1 = .ok (.istore_n 2, 1) := by decide +kernel
theorem dX1_keysFinding_2 : decode cX1_keysFinding 2 = .ok (.iconst 0, 1) := by decide +kernel
theorem dX1_keysFinding_3 : decode cX1_keysFinding 3 = .ok (.istore_n 3, 1) := by decide +kernel
theorem dX1_keysFinding_4 : decode cX1_keysFinding 4 = .ok (.iload_n 3, 1) := by decide +kernel
theorem dX1_keysFinding_5 : decode cX1_keysFinding 5 = .ok (.sipush 256, 3) := by decide +kernel
theorem dX1_keysFinding_8 : decode cX1_keysFinding 8 = .ok (.if_icmp .ge 21, 3) := by decide +kernel
theorem dX1_keysFinding_11 : decode cX1_keysFinding 11 = .ok (.aload_n 0, 1) := by decide +kernel
theorem dX1_keysFinding_12 : decode cX1_keysFinding 12 = .ok (.iload_n 3, 1) := by decide +kernel
theorem dX1_keysFinding_13 : decode cX1_keysFinding 13 = .ok (.invokevirtual 111, 3) := by decide +kernel
theorem dX1_keysFinding_16 : decode cX1_keysFinding 16 = .ok (.iload_n 1, 1) := by decide +kernel
theorem dX1_keysFinding_17 : decode cX1_keysFinding 17 = .ok (.if_icmp .ne 6, 3) := by decide +kernel
theorem dX1_keysFinding_20 : decode cX1_keysFinding 20 = .ok (.iinc 2 1, 3) := by decide +kernel
theorem dX1_keysFinding_23 : decode cX1_keysFinding 23 = .ok (.iinc 3 1, 3) := by decide +kernel
theorem dX1_keysFinding_26 : decode cX1_keysFinding 26 = .ok (.goto (-22), 3) := by decide +kernel
theorem dX1_keysFinding_29 : decode cX1_keysFinding 29 = .ok (.iload_n 2, 1) := by decide +kernel
theorem dX1_keysFinding_30 : decode cX1_keysFinding 30 = .ok (.ireturn, 1) := by decide +kernel
theorem dX1_entriesNeverFound_0 : decode cX1_entriesNeverFound 0 = .ok (.iconst 0, 1) := by decide +kernel
theorem dX1_entriesNeverFound_1 : decode cX1_entriesNeverFound 1 = .ok (.istore_n 1, 1) := by decide +kernel
theorem dX1_entriesNeverFound_2 : decode cX1_entriesNeverFound 2 = .ok (.iconst 0, 1) := by decide +kernel
theorem dX1_entriesNeverFound_3 : decode cX1_entriesNeverFound 3 = .ok (.istore_n 2, 1) := by decide +kernel
theorem dX1_entriesNeverFound_4 : decode cX1_entriesNeverFound 4 = .ok (.iload_n 2, 1) := by decide +kernel
theorem dX1_entriesNeverFound_5 : decode cX1_entriesNeverFound 5 = .ok (.sipush 256, 3) := by decide +kernel
theorem dX1_entriesNeverFound_8 : decode cX1_entriesNeverFound 8 = .ok (.if_icmp .ge 26, 3) := by decide +kernel
theorem dX1_entriesNeverFound_11 : decode cX1_entriesNeverFound 11 = .ok (.aload_n 0, 1) := by decide +kernel
theorem dX1_entriesNeverFound_12 : decode cX1_entriesNeverFound 12 = .ok (.iload_n 2, 1) := by decide +kernel
theorem dX1_entriesNeverFound_13 : decode cX1_entriesNeverFound 13 = .ok (.invokevirtual 111, 3) := by decide +kernel
theorem dX1_entriesNeverFound_16 : decode cX1_entriesNeverFound 16 = .ok (.istore_n 3, 1) := by decide +kernel
theorem dX1_entriesNeverFound_17 : decode cX1_entriesNeverFound 17 = .ok (.iload_n 3, 1) := by decide +kernel
theorem dX1_entriesNeverFound_18 : decode cX1_entriesNeverFound 18 = .ok (.iconst (-1), 1) := by decide +kernel
theorem dX1_entriesNeverFound_19 : decode cX1_entriesNeverFound 19 = .ok (.if_icmp .eq 9, 3) := by decide +kernel
theorem dX1_entriesNeverFound_22 : decode cX1_entriesNeverFound 22 = .ok (.iload_n 1, 1) := by decide +kernel
theorem dX1_entriesNeverFound_23 : decode cX1_entriesNeverFound 23 = .ok (.iconst 1, 1) := by decide +kernel
theorem dX1_entriesNeverFound_24 : decode cX1_entriesNeverFound 24 = .ok (.iload_n 3, 1) := by decide +kernel
theorem dX1_entriesNeverFound_25 : decode cX1_entriesNeverFound 25 = .ok (.ishl, 1) := by decide +kernel
theorem dX1_entriesNeverFound_26 : decode cX1_entriesNeverFound 26 = .ok (.ior, 1) := by decide +kernel
theorem dX1_entriesNeverFound_27 : decode cX1_entriesNeverFound 27 = .ok (.istore_n 1, 1) := by decide +kernel
theorem dX1_entriesNeverFound_28 : decode cX1_entriesNeverFound 28 = .ok (.iinc 2 1, 3) := by decide +kernel
theorem dX1_entriesNeverFound_31 : decode cX1_entriesNeverFound 31 = .ok (.goto (-27), 3) := by decide +kernel
theorem dX1_entriesNeverFound_34 : decode cX1_entriesNeverFound 34 = .ok (.aload_n 0, 1) := by decide +kernel
theorem dX1_entriesNeverFound_35 : decode cX1_entriesNeverFound 35 = .ok (.invokevirtual 60, 3) := by decide +kernel
theorem dX1_entriesNeverFound_38 : decode cX1_entriesNeverFound 38 = .ok (.iload_n 1, 1) := by decide +kernel
theorem dX1_entriesNeverFound_39 : decode cX1_entriesNeverFound 39 = .ok (.invokestatic 114, 3) := by decide +kernel
theorem dX1_entriesNeverFound_42 : decode cX1_entriesNeverFound 42 = .ok (.isub, 1) := by decide +kernel
theorem dX1_entriesNeverFound_43 : decode cX1_entriesNeverFound 43 = .ok (.ireturn, 1) := by decide +kernel
theorem dX1_countSearch_0 : decode cX1_countSearch 0 = .ok (.aload_n 0, 1) := by decide +kernel
theorem dX1_countSearch_1 : decode cX1_countSearch 1 = .ok (.iload_n 2, 1) := by decide +kernel
theorem dX1_countSearch_2 : decode cX1_countSearch 2 = .ok (.invokevirtual 53, 3) := by decide +kernel
theorem dX1_countSearch_5 : decode cX1_countSearch 5 = .ok (.ifCond .ne 4, 3) := by decide +kernel
theorem dX1_countSearch_8 : decode cX1_countSearch 8 = .ok (.return_, 1) := by decide +kernel
theorem dX1_countSearch_9 : decode cX1_countSearch 9 = .ok (.aload_n 0, 1) := by decide +kernel
theorem dX1_countSearch_10 : decode cX1_countSearch 10 = .ok (.dup, 1) := by decide +kernel
theorem dX1_countSearch_11 : decode cX1_countSearch 11 = .ok (.getfield 43, 3) := by decide +kernel
theorem dX1_countSearch_14 : decode cX1_countSearch 14 = .ok (.iconst 1, 1) := by decide +kernel
theorem dX1_countSearch_15 : decode cX1_countSearch 15 = .ok (.iadd, 1) := by decide +kernel
theorem dX1_countSearch_16 : decode cX1_countSearch 16 = .ok (.putfield 43, 3) := by decide +kernel
theorem dX1_countSearch_19 : decode cX1_countSearch 19 = .ok (.aload_n 0, 1) := by decide +kernel
theorem dX1_countSearch_20 : decode cX1_countSearch 20 = .ok (.dup, 1) := by decide +kernel
theorem dX1_countSearch_21 : decode cX1_countSearch 21 = .ok (.getfield 46, 3) := by decide +kernel
theorem dX1_countSearch_24 : decode cX1_countSearch 24 = .ok (.aload_n 0, 1) := by decide +kernel
theorem dX1_countSearch_25 : decode cX1_countSearch 25 = .ok (.iload_n 1, 1) := by decide +kernel
theorem dX1_countSearch_26 : decode cX1_countSearch 26 = .ok (.invokevirtual 119, 3) := by decide +kernel
theorem dX1_countSearch_29 : decode cX1_countSearch 29 = .ok (.iadd, 1) := by decide +kernel
theorem dX1_countSearch_30 : decode cX1_countSearch 30 = .ok (.putfield 46, 3) := by decide +kernel
theorem dX1_countSearch_33 : decode cX1_countSearch 33 = .ok (.aload_n 0, 1) := by decide +kernel
theorem dX1_countSearch_34 : decode cX1_countSearch 34 = .ok (.getfield 9, 3) := by decide +kernel
theorem dX1_countSearch_37 : decode cX1_countSearch 37 = .ok (.iload_n 2, 1) := by decide +kernel
theorem dX1_countSearch_38 : decode cX1_countSearch 38 = .ok (.iaload, 1) := by decide +kernel
theorem dX1_countSearch_39 : decode cX1_countSearch 39 = .ok (.istore_n 3, 1) := by decide +kernel
theorem dX1_countSearch_40 : decode cX1_countSearch 40 = .ok (.iconst 0, 1) := by decide +kernel
theorem dX1_countSearch_41 : decode cX1_countSearch 41 = .ok (.istore 4, 2) := by decide +kernel
theorem dX1_countSearch_43 : decode cX1_countSearch 43 = .ok (.iload 4, 2) := by decide +kernel
theorem dX1_countSearch_45 : decode cX1_countSearch 45 = .ok (.bipush 32, 2) := by decide +kernel
theorem dX1_countSearch_47 : decode cX1_countSearch 47 = .ok (.if_icmp .ge 31, 3) := by decide +kernel
theorem dX1_countSearch_50 : decode cX1_countSearch 50 = .ok (.aload_n 0, 1) := by decide +kernel
theorem dX1_countSearch_51 : decode cX1_countSearch 51 = .ok (.getfield 9, 3) := by decide +kernel
theorem dX1_countSearch_54 : decode cX1_countSearch 54 = .ok (.iload 4, 2) := by decide +kernel
theorem dX1_countSearch_56 : decode cX1_countSearch 56 = .ok (.iaload, 1) := by decide +kernel
theorem dX1_countSearch_57 : decode cX1_countSearch 57 = .ok (.iload_n 3, 1) := by decide +kernel
theorem dX1_countSearch_58 : decode cX1_countSearch 58 = .ok (.if_icmp .ne 14, 3) := by decide +kernel
theorem dX1_countSearch_61 : decode cX1_countSearch 61 = .ok (.aload_n 0, 1) := by decide +kernel
theorem dX1_countSearch_62 : decode cX1_countSearch 62 = .ok (.getfield 30, 3) := by decide +kernel
theorem dX1_countSearch_65 : decode cX1_countSearch 65 = .ok (.iload 4, 2) := by decide +kernel
theorem dX1_countSearch_67 : decode cX1_countSearch 67 = .ok (.dup2, 1) := by decide +kernel
theorem dX1_countSearch_68 : decode cX1_countSearch 68 = .ok (.iaload, 1) := by decide +kernel
theorem dX1_countSearch_69 : decode cX1_countSearch 69 = .ok (.iconst 1, 1) := by decide +kernel
theorem dX1_countSearch_70 : decode cX1_countSearch 70 = .ok (.iadd, 1) := by decide +kernel
theorem dX1_countSearch_71 : decode cX1_countSearch 71 = .ok (.iastore, 1) := by decide +kernel
theorem dX1_countSearch_72 : decode cX1_countSearch 72 = .ok (.iinc 4 1, 3) := by decide +kernel
theorem dX1_countSearch_75 : decode cX1_countSearch 75 = .ok (.goto (-32), 3) := by decide +kernel
theorem dX1_countSearch_78 : decode cX1_countSearch 78 = .ok (.return_, 1) := by decide +kernel
theorem dX1_slotHiding_0 : decode cX1_slotHiding 0 = .ok (.aload_n 0, 1) := by decide +kernel
theorem dX1_slotHiding_1 : decode cX1_slotHiding 1 = .ok (.iload_n 1, 1) := by decide +kernel
theorem dX1_slotHiding_2 : decode cX1_slotHiding 2 = .ok (.invokevirtual 53, 3) := by decide +kernel
theorem dX1_slotHiding_5 : decode cX1_slotHiding 5 = .ok (.ifCond .ne 5, 3) := by decide +kernel
theorem dX1_slotHiding_8 : decode cX1_slotHiding 8 = .ok (.iconst (-1), 1) := by decide +kernel
theorem dX1_slotHiding_9 : decode cX1_slotHiding 9 = .ok (.ireturn, 1) := by decide +kernel
theorem dX1_slotHiding_10 : decode cX1_slotHiding 10 = .ok (.aload_n 0, 1) := by decide +kernel
theorem dX1_slotHiding_11 : decode cX1_slotHiding 11 = .ok (.getfield 18, 3) := by decide +kernel
theorem dX1_slotHiding_14 : decode cX1_slotHiding 14 = .ok (.iload_n 1, 1) := by decide +kernel
theorem dX1_slotHiding_15 : decode cX1_slotHiding 15 = .ok (.iaload, 1) := by decide +kernel
theorem dX1_slotHiding_16 : decode cX1_slotHiding 16 = .ok (.istore_n 2, 1) := by decide +kernel
theorem dX1_slotHiding_17 : decode cX1_slotHiding 17 = .ok (.aload_n 0, 1) := by decide +kernel
theorem dX1_slotHiding_18 : decode cX1_slotHiding 18 = .ok (.getfield 21, 3) := by decide +kernel
theorem dX1_slotHiding_21 : decode cX1_slotHiding 21 = .ok (.iload_n 1, 1) := by decide +kernel
theorem dX1_slotHiding_22 : decode cX1_slotHiding 22 = .ok (.iaload, 1) := by decide +kernel
theorem dX1_slotHiding_23 : decode cX1_slotHiding 23 = .ok (.istore_n 3, 1) := by decide +kernel
theorem dX1_slotHiding_24 : decode cX1_slotHiding 24 = .ok (.iconst 0, 1) := by decide +kernel
theorem dX1_slotHiding_25 : decode cX1_slotHiding 25 = .ok (.istore 4, 2) := by decide +kernel
theorem dX1_slotHiding_27 : decode cX1_slotHiding 27 = .ok (.iload 4, 2) := by decide +kernel
theorem dX1_slotHiding_29 : decode cX1_slotHiding 29 = .ok (.iload_n 1, 1) := by decide +kernel
theorem dX1_slotHiding_30 : decode cX1_slotHiding 30 = .ok (.if_icmp .ge 59, 3) := by decide +kernel
theorem dX1_slotHiding_33 : decode cX1_slotHiding 33 = .ok (.aload_n 0, 1) := by decide +kernel
theorem dX1_slotHiding_34 : decode cX1_slotHiding 34 = .ok (.iload 4, 2) := by decide +kernel
theorem dX1_slotHiding_36 : decode cX1_slotHiding 36 = .ok (.invokevirtual 53, 3) := by decide +kernel
theorem dX1_slotHiding_39 : decode cX1_slotHiding 39 = .ok (.ifCond .eq 44, 3) := by decide +kernel
theorem dX1_slotHiding_42 : decode cX1_slotHiding 42 = .ok (.aload_n 0, 1) := by decide +kernel
theorem dX1_slotHiding_43 : decode cX1_slotHiding 43 = .ok (.getfield 18, 3) := by decide +kernel
theorem dX1_slotHiding_46 : decode cX1_slotHiding 46 = .ok (.iload 4, 2) := by decide +kernel
theorem dX1_slotHiding_48 : decode cX1_slotHiding 48 = .ok (.iaload, 1) := by decide +kernel
theorem dX1_slotHiding_49 : decode cX1_slotHiding 49 = .ok (.iload_n 2, 1) := by decide +kernel
theorem dX1_slotHiding_50 : decode cX1_slotHiding 50 = .ok (.iand, 1) := by decide +kernel
theorem dX1_slotHiding_51 : decode cX1_slotHiding 51 = .ok (.aload_n 0, 1) := by decide +kernel
theorem dX1_slotHiding_52 : decode cX1_slotHiding 52 = .ok (.getfield 18, 3) := by decide +kernel
theorem dX1_slotHiding_55 : decode cX1_slotHiding 55 = .ok (.iload 4, 2) := by decide +kernel
theorem dX1_slotHiding_57 : decode cX1_slotHiding 57 = .ok (.iaload, 1) := by decide +kernel
theorem dX1_slotHiding_58 : decode cX1_slotHiding 58 = .ok (.if_icmp .ne 25, 3) := by decide +kernel
theorem dX1_slotHiding_61 : decode cX1_slotHiding 61 = .ok (.iload_n 3, 1) := by decide +kernel
theorem dX1_slotHiding_62 : decode cX1_slotHiding 62 = .ok (.aload_n 0, 1) := by decide +kernel
theorem dX1_slotHiding_63 : decode cX1_slotHiding 63 = .ok (.getfield 18, 3) := by decide +kernel
theorem dX1_slotHiding_66 : decode cX1_slotHiding 66 = .ok (.iload 4, 2) := by decide +kernel
theorem dX1_slotHiding_68 : decode cX1_slotHiding 68 = .ok (.iaload, 1) := by decide +kernel
theorem dX1_slotHiding_69 : decode cX1_slotHiding 69 = .ok (.iand, 1) := by decide +kernel
theorem dX1_slotHiding_70 : decode cX1_slotHiding 70 = .ok (.aload_n 0, 1) := by decide +kernel
theorem dX1_slotHiding_71 : decode cX1_slotHiding 71 = .ok (.getfield 21, 3) := by decide +kernel
theorem dX1_slotHiding_74 : decode cX1_slotHiding 74 = .ok (.iload 4, 2) := by decide +kernel
theorem dX1_slotHiding_76 : decode cX1_slotHiding 76 = .ok (.iaload, 1) := by decide +kernel
theorem dX1_slotHiding_77 : decode cX1_slotHiding 77 = .ok (.if_icmp .ne 6, 3) := by decide +kernel
theorem dX1_slotHiding_80 : decode cX1_slotHiding 80 = .ok (.iload 4, 2) := by decide +kernel
theorem dX1_slotHiding_82 : decode cX1_slotHiding 82 = .ok (.ireturn, 1) := by decide +kernel
theorem dX1_slotHiding_83 : decode cX1_slotHiding 83 = .ok (.iinc 4 1, 3) := by decide +kernel
theorem dX1_slotHiding_86 : decode cX1_slotHiding 86 = .ok (.goto (-59), 3) := by decide +kernel
theorem dX1_slotHiding_89 : decode cX1_slotHiding 89 = .ok (.iconst (-1), 1) := by decide +kernel
theorem dX1_slotHiding_90 : decode cX1_slotHiding 90 = .ok (.ireturn, 1) := by decide +kernel
theorem dX1_entriesInBank_0 : decode cX1_entriesInBank 0 = .ok (.iconst 0, 1) := by decide +kernel
theorem dX1_entriesInBank_1 : decode cX1_entriesInBank 1 = .ok (.istore_n 2, 1) := by decide +kernel
theorem dX1_entriesInBank_2 : decode cX1_entriesInBank 2 = .ok (.iconst 0, 1) := by decide +kernel
theorem dX1_entriesInBank_3 : decode cX1_entriesInBank 3 = .ok (.istore_n 3, 1) := by decide +kernel
theorem dX1_entriesInBank_4 : decode cX1_entriesInBank 4 = .ok (.iload_n 3, 1) := by decide +kernel
theorem dX1_entriesInBank_5 : decode cX1_entriesInBank 5 = .ok (.bipush 8, 2) := by decide +kernel
theorem dX1_entriesInBank_7 : decode cX1_entriesInBank 7 = .ok (.if_icmp .ge 25, 3) := by decide +kernel
theorem dX1_entriesInBank_10 : decode cX1_entriesInBank 10 = .ok (.aload_n 0, 1) := by decide +kernel
theorem dX1_entriesInBank_11 : decode cX1_entriesInBank 11 = .ok (.iload_n 1, 1) := by decide +kernel
theorem dX1_entriesInBank_12 : decode cX1_entriesInBank 12 = .ok (.bipush 8, 2) := by decide +kernel
theorem dX1_entriesInBank_14 : decode cX1_entriesInBank 14 = .ok (.imul, 1) := by decide +kernel
theorem dX1_entriesInBank_15 : decode cX1_entriesInBank 15 = .ok (.iload_n 3, 1) := by decide +kernel
theorem dX1_entriesInBank_16 : decode cX1_entriesInBank 16 = .ok (.iadd, 1) := by decide +kernel
theorem dX1_entriesInBank_17 : decode cX1_entriesInBank 17 = .ok (.invokevirtual 53, 3) := by decide +kernel
theorem dX1_entriesInBank_20 : decode cX1_entriesInBank 20 = .ok (.ifCond .eq 6, 3) := by decide +kernel
theorem dX1_entriesInBank_23 : decode cX1_entriesInBank 23 = .ok (.iinc 2 1, 3) := by decide +kernel
theorem dX1_entriesInBank_26 : decode cX1_entriesInBank 26 = .ok (.iinc 3 1, 3) := by decide +kernel
theorem dX1_entriesInBank_29 : decode cX1_entriesInBank 29 = .ok (.goto (-25), 3) := by decide +kernel
theorem dX1_entriesInBank_32 : decode cX1_entriesInBank 32 = .ok (.iload_n 2, 1) := by decide +kernel
theorem dX1_entriesInBank_33 : decode cX1_entriesInBank 33 = .ok (.ireturn, 1) := by decide +kernel
theorem dX1_powerFor_0 : decode cX1_powerFor 0 = .ok (.iconst 0, 1) := by decide +kernel
theorem dX1_powerFor_1 : decode cX1_powerFor 1 = .ok (.istore_n 2, 1) := by decide +kernel
theorem dX1_powerFor_2 : decode cX1_powerFor 2 = .ok (.iconst 0, 1) := by decide +kernel
theorem dX1_powerFor_3 : decode cX1_powerFor 3 = .ok (.istore_n 3, 1) := by decide +kernel
theorem dX1_powerFor_4 : decode cX1_powerFor 4 = .ok (.iload_n 3, 1) := by decide +kernel
theorem dX1_powerFor_5 : decode cX1_powerFor 5 = .ok (.iconst 4, 1) := by decide +kernel
theorem dX1_powerFor_6 : decode cX1_powerFor 6 = .ok (.if_icmp .ge 32, 3) := by decide +kernel
theorem dX1_powerFor_9 : decode cX1_powerFor 9 = .ok (.iload_n 1, 1) := by decide +kernel
theorem dX1_powerFor_10 : decode cX1_powerFor 10 = .ok (.aload_n 0, 1) := by decide +kernel
theorem dX1_powerFor_11 : decode cX1_powerFor 11 = .ok (.iload_n 3, 1) := by decide +kernel
theorem dX1_powerFor_12 : decode cX1_powerFor 12 = .ok (.invokevirtual 122, 3) := by decide +kernel
theorem dX1_powerFor_15 : decode cX1_powerFor 15 = .ok (.iand, 1) := by decide +kernel
theorem dX1_powerFor_16 : decode cX1_powerFor 16 = .ok (.aload_n 0, 1) := by decide +kernel
theorem dX1_powerFor_17 : decode cX1_powerFor 17 = .ok (.iload_n 3, 1) := by decide +kernel
theorem dX1_powerFor_18 : decode cX1_powerFor 18 = .ok (.invokevirtual 125, 3) := by decide +kernel
theorem dX1_powerFor_21 : decode cX1_powerFor 21 = .ok (.if_icmp .ne 11, 3) := by decide +kernel
theorem dX1_powerFor_24 : decode cX1_powerFor 24 = .ok (.iload_n 2, 1) := by decide +kernel
theorem dX1_powerFor_25 : decode cX1_powerFor 25 = .ok (.aload_n 0, 1) := by decide +kernel
theorem dX1_powerFor_26 : decode cX1_powerFor 26 = .ok (.iload_n 3, 1) := by decide +kernel
theorem dX1_powerFor_27 : decode cX1_powerFor 27 = .ok (.invokevirtual 56, 3) := by decide +kernel
theorem dX1_powerFor_30 : decode cX1_powerFor 30 = .ok (.iadd, 1) := by decide +kernel
theorem dX1_powerFor_31 : decode cX1_powerFor 31 = .ok (.istore_n 2, 1) := by decide +kernel
theorem dX1_powerFor_32 : decode cX1_powerFor 32 = .ok (.iinc 3 1, 3) := by decide +kernel
theorem dX1_powerFor_35 : decode cX1_powerFor 35 = .ok (.goto (-31), 3) := by decide +kernel
theorem dX1_powerFor_38 : decode cX1_powerFor 38 = .ok (.iload_n 2, 1) := by decide +kernel
theorem dX1_powerFor_39 : decode cX1_powerFor 39 = .ok (.ireturn, 1) := by decide +kernel
theorem dX1_commonMask_0 : decode cX1_commonMask 0 = .ok (.aload_n 0, 1) := by decide +kernel
theorem dX1_commonMask_1 : decode cX1_commonMask 1 = .ok (.iload_n 1, 1) := by decide +kernel
theorem dX1_commonMask_2 : decode cX1_commonMask 2 = .ok (.invokevirtual 128, 3) := by decide +kernel
theorem dX1_commonMask_5 : decode cX1_commonMask 5 = .ok (.istore_n 2, 1) := by decide +kernel
theorem dX1_commonMask_6 : decode cX1_commonMask 6 = .ok (.iload_n 2, 1) := by decide +kernel
theorem dX1_commonMask_7 : decode cX1_commonMask 7 = .ok (.invokestatic 49, 3) := by decide +kernel
theorem dX1_commonMask_10 : decode cX1_commonMask 10 = .ok (.ifCond .ne 5, 3) := by decide +kernel
theorem dX1_commonMask_13 : decode cX1_commonMask 13 = .ok (.iconst 0, 1) := by decide +kernel
theorem dX1_commonMask_14 : decode cX1_commonMask 14 = .ok (.ireturn, 1) := by decide +kernel
theorem dX1_commonMask_15 : decode cX1_commonMask 15 = .ok (.aload_n 0, 1) := by decide +kernel
theorem dX1_commonMask_16 : decode cX1_commonMask 16 = .ok (.getfield 18, 3) := by decide +kernel
theorem dX1_commonMask_19 : decode cX1_commonMask 19 = .ok (.iload_n 2, 1) := by decide +kernel
theorem dX1_commonMask_20 : decode cX1_commonMask 20 = .ok (.iaload, 1) := by decide +kernel
theorem dX1_commonMask_21 : decode cX1_commonMask 21 = .ok (.istore_n 3, 1) := by decide +kernel
theorem dX1_commonMask_22 : decode cX1_commonMask 22 = .ok (.iconst 0, 1) := by decide +kernel
theorem dX1_commonMask_23 : decode cX1_commonMask 23 = .ok (.istore 4, 2) := by decide +kernel
theorem dX1_commonMask_25 : decode cX1_commonMask 25 = .ok (.iload 4, 2) := by decide +kernel
theorem dX1_commonMask_27 : decode cX1_commonMask 27 = .ok (.bipush 8, 2) := by decide +kernel
theorem dX1_commonMask_29 : decode cX1_commonMask 29 = .ok (.if_icmp .ge 54, 3) := by decide +kernel
theorem dX1_commonMask_32 : decode cX1_commonMask 32 = .ok (.iload_n 1, 1) := by decide +kernel
theorem dX1_commonMask_33 : decode cX1_commonMask 33 = .ok (.bipush 8, 2) := by decide +kernel
theorem dX1_commonMask_35 : decode cX1_commonMask 35 = .ok (.imul, 1) := by decide +kernel
theorem dX1_commonMask_36 : decode cX1_commonMask 36 = .ok (.iload 4, 2) := by decide +kernel
theorem dX1_commonMask_38 : decode cX1_commonMask 38 = .ok (.iadd, 1) := by decide +kernel
theorem dX1_commonMask_39 : decode cX1_commonMask 39 = .ok (.istore 5, 2) := by decide +kernel
theorem dX1_commonMask_41 : decode cX1_commonMask 41 = .ok (.aload_n 0, 1) := by decide +kernel
theorem dX1_commonMask_42 : decode cX1_commonMask 42 = .ok (.iload 5, 2) := by decide +kernel
theorem dX1_commonMask_44 : decode cX1_commonMask 44 = .ok (.invokevirtual 53, 3) := by decide +kernel
theorem dX1_commonMask_47 : decode cX1_commonMask 47 = .ok (.ifCond .eq 30, 3) := by decide +kernel
theorem dX1_commonMask_50 : decode cX1_commonMask 50 = .ok (.iload_n 3, 1) := by decide +kernel
theorem dX1_commonMask_51 : decode cX1_commonMask 51 = .ok (.aload_n 0, 1) := by decide +kernel
theorem dX1_commonMask_52 : decode cX1_commonMask 52 = .ok (.getfield 18, 3) := by decide +kernel
theorem dX1_commonMask_55 : decode cX1_commonMask 55 = .ok (.iload 5, 2) := by decide +kernel
theorem dX1_commonMask_57 : decode cX1_commonMask 57 = .ok (.iaload, 1) := by decide +kernel
theorem dX1_commonMask_58 : decode cX1_commonMask 58 = .ok (.aload_n 0, 1) := by decide +kernel
theorem dX1_commonMask_59 : decode cX1_commonMask 59 = .ok (.getfield 21, 3) := by decide +kernel
theorem dX1_commonMask_62 : decode cX1_commonMask 62 = .ok (.iload 5, 2) := by decide +kernel
theorem dX1_commonMask_64 : decode cX1_commonMask 64 = .ok (.iaload, 1) := by decide +kernel
theorem dX1_commonMask_65 : decode cX1_commonMask 65 = .ok (.aload_n 0, 1) := by decide +kernel
theorem dX1_commonMask_66 : decode cX1_commonMask 66 = .ok (.getfield 21, 3) := by decide +kernel
theorem dX1_commonMask_69 : decode cX1_commonMask 69 = .ok (.iload_n 2, 1) := by decide +kernel
theorem dX1_commonMask_70 : decode cX1_commonMask 70 = .ok (.iaload, 1) := by decide +kernel
theorem dX1_commonMask_71 : decode cX1_commonMask 71 = .ok (.ixor, 1) := by decide +kernel
theorem dX1_commonMask_72 : decode cX1_commonMask 72 = .ok (.iconst (-1), 1) := by decide +kernel
theorem dX1_commonMask_73 : decode cX1_commonMask 73 = .ok (.ixor, 1) := by decide +kernel
theorem dX1_commonMask_74 : decode cX1_commonMask 74 = .ok (.iand, 1) := by decide +kernel
theorem dX1_commonMask_75 : decode cX1_commonMask 75 = .ok (.iand, 1) := by decide +kernel
theorem dX1_commonMask_76 : decode cX1_commonMask 76 = .ok (.istore_n 3, 1) := by decide +kernel
theorem dX1_commonMask_77 : decode cX1_commonMask 77 = .ok (.iinc 4 1, 3) := by decide +kernel
theorem dX1_commonMask_80 : decode cX1_commonMask 80 = .ok (.goto (-55), 3) := by decide +kernel
theorem dX1_commonMask_83 : decode cX1_commonMask 83 = .ok (.iload_n 3, 1) := by decide +kernel
theorem dX1_commonMask_84 : decode cX1_commonMask 84 = .ok (.ireturn, 1) := by decide +kernel
theorem dX1_commonValue_0 : decode cX1_commonValue 0 = .ok (.aload_n 0, 1) := by decide +kernel
theorem dX1_commonValue_1 : decode cX1_commonValue 1 = .ok (.iload_n 1, 1) := by decide +kernel
theorem dX1_commonValue_2 : decode cX1_commonValue 2 = .ok (.invokevirtual 128, 3) := by decide +kernel
theorem dX1_commonValue_5 : decode cX1_commonValue 5 = .ok (.istore_n 2, 1) := by decide +kernel
theorem dX1_commonValue_6 : decode cX1_commonValue 6 = .ok (.iload_n 2, 1) := by decide +kernel
theorem dX1_commonValue_7 : decode cX1_commonValue 7 = .ok (.invokestatic 49, 3) := by decide +kernel
theorem dX1_commonValue_10 : decode cX1_commonValue 10 = .ok (.ifCond .eq 18, 3) := by decide +kernel
theorem dX1_commonValue_13 : decode cX1_commonValue 13 = .ok (.aload_n 0, 1) := by decide +kernel
theorem dX1_commonValue_14 : decode cX1_commonValue 14 = .ok (.getfield 21, 3) := by decide +kernel
theorem dX1_commonValue_17 : decode cX1_commonValue 17 = .ok (.iload_n 2, 1) := by decide +kernel
theorem dX1_commonValue_18 : decode cX1_commonValue 18 = .ok (.iaload, 1) := by decide +kernel
theorem dX1_commonValue_19 : decode cX1_commonValue 19 = .ok (.aload_n 0, 1) := by decide +kernel
theorem dX1_commonValue_20 : decode cX1_commonValue 20 = .ok (.iload_n 1, 1) := by decide +kernel
theorem dX1_commonValue_21 : decode cX1_commonValue 21 = .ok (.invokevirtual 122, 3) := by decide +kernel
theorem dX1_commonValue_24 : decode cX1_commonValue 24 = .ok (.iand, 1) := by decide +kernel
theorem dX1_commonValue_25 : decode cX1_commonValue 25 = .ok (.goto 4, 3) := by decide +kernel
theorem dX1_commonValue_28 : decode cX1_commonValue 28 = .ok (.iconst 0, 1) := by decide +kernel
theorem dX1_commonValue_29 : decode cX1_commonValue 29 = .ok (.ireturn, 1) := by decide +kernel
theorem dX1_firstEntryOfBank_0 : decode cX1_firstEntryOfBank 0 = .ok (.iconst 0, 1) := by decide +kernel
theorem dX1_firstEntryOfBank_1 : decode cX1_firstEntryOfBank 1 = .ok (.istore_n 2, 1) := by decide +kernel
theorem dX1_firstEntryOfBank_2 : decode cX1_firstEntryOfBank 2 = .ok (.iload_n 2, 1) := by decide +kernel
theorem dX1_firstEntryOfBank_3 : decode cX1_firstEntryOfBank 3 = .ok (.bipush 8, 2) := by decide +kernel
theorem dX1_firstEntryOfBank_5 : decode cX1_firstEntryOfBank 5 = .ok (.if_icmp .ge 29, 3) := by decide +kernel
theorem dX1_firstEntryOfBank_8 : decode cX1_firstEntryOfBank 8 = .ok (.aload_n 0, 1) := by decide +kernel
theorem dX1_firstEntryOfBank_9 : decode cX1_firstEntryOfBank 9 = .ok (.iload_n 1, 1) := by decide +kernel
theorem dX1_firstEntryOfBank_10 : decode cX1_firstEntryOfBank 10 = .ok (.bipush 8, 2) := by decide +kernel
theorem dX1_firstEntryOfBank_12 : decode cX1_firstEntryOfBank 12 = .ok (.imul, 1) := by decide +kernel
theorem dX1_firstEntryOfBank_13 : decode cX1_firstEntryOfBank 13 = .ok (.iload_n 2, 1) := by decide +kernel
theorem dX1_firstEntryOfBank_14 : decode cX1_firstEntryOfBank 14 = .ok (.iadd, 1) := by decide +kernel
theorem dX1_firstEntryOfBank_15 : decode cX1_firstEntryOfBank 15 = .ok (.invokevirtual 53, 3) := by decide +kernel
theorem dX1_firstEntryOfBank_18 : decode cX1_firstEntryOfBank 18 = .ok (.ifCond .eq 10, 3) := by decide +kernel
theorem dX1_firstEntryOfBank_21 : decode cX1_firstEntryOfBank 21 = .ok (.iload_n 1, 1) := by decide +kernel
theorem dX1_firstEntryOfBank_22 : decode cX1_firstEntryOfBank 22 = .ok (.bipush 8, 2) := by decide +kernel
theorem dX1_firstEntryOfBank_24 : decode cX1_firstEntryOfBank 24 = .ok (.imul, 1) := by decide +kernel
theorem dX1_firstEntryOfBank_25 : decode cX1_firstEntryOfBank 25 = .ok (.iload_n 2, 1) := by decide +kernel
theorem dX1_firstEntryOfBank_26 : decode cX1_firstEntryOfBank 26 = .ok (.iadd, 1) := by decide +kernel
theorem dX1_firstEntryOfBank_27 : decode cX1_firstEntryOfBank 27 = .ok (.ireturn, 1) := by decide +kernel
theorem dX1_firstEntryOfBank_28 : decode cX1_firstEntryOfBank 28 = .ok (.iinc 2 1, 3) := by decide +kernel
theorem dX1_firstEntryOfBank_31 : decode cX1_firstEntryOfBank 31 = .ok (.goto (-29), 3) := by decide +kernel
theorem dX1_firstEntryOfBank_34 : decode cX1_firstEntryOfBank 34 = .ok (.iconst (-1), 1) := by decide +kernel
theorem dX1_firstEntryOfBank_35 : decode cX1_firstEntryOfBank 35 = .ok (.ireturn, 1) := by decide +kernel
theorem dX2_init_0 : decode cX2_init 0 = .ok (.aload_n 0, 1) := by decide +kernel
theorem dX2_init_1 : decode cX2_init 1 = .ok (.invokespecial 5, 3) := by decide +kernel
theorem dX2_init_4 : decode cX2_init 4 = .ok (.aload_n 0, 1) := by decide +kernel
theorem dX2_init_5 : decode cX2_init 5 = .ok (.bipush 60, 2) := by decide +kernel
theorem dX2_init_7 : decode cX2_init 7 = .ok (.newarray .int, 2) := by decide +kernel
theorem dX2_init_9 : decode cX2_init 9 = .ok (.putfield 11, 3) := by decide +kernel
theorem dX2_init_12 : decode cX2_init 12 = .ok (.aload_n 0, 1) := by decide +kernel
theorem dX2_init_13 : decode cX2_init 13 = .ok (.iconst 0, 1) := by decide +kernel
theorem dX2_init_14 : decode cX2_init 14 = .ok (.putfield 15, 3) := by decide +kernel
theorem dX2_init_17 : decode cX2_init 17 = .ok (.aload_n 0, 1) := by decide +kernel
theorem dX2_init_18 : decode cX2_init 18 = .ok (.iconst 0, 1) := by decide +kernel
theorem dX2_init_19 : decode cX2_init 19 = .ok (.putfield 19, 3) := by decide +kernel
theorem dX2_init_22 : decode cX2_init 22 = .ok (.aload_n 0, 1) := by decide +kernel
theorem dX2_init_23 : decode cX2_init 23 = .ok (.iconst 0, 1) := by decide +kernel
theorem dX2_init_24 : decode cX2_init 24 = .ok (.putfield 22, 3) := by decide +kernel
theorem dX2_init_27 : decode cX2_init 27 = .ok (.aload_n 0, 1) := by decide +kernel
theorem dX2_init_28 : decode cX2_init 28 = .ok (.iconst 5, 1) := by decide +kernel
theorem dX2_init_29 : decode cX2_init 29 = .ok (.newarray .int, 2) := by decide +kernel
theorem dX2_init_31 : decode cX2_init 31 = .ok (.putfield 25, 3) := by decide +kernel
theorem dX2_init_34 : decode cX2_init 34 = .ok (.aload_n 0, 1) := by decide +kernel
theorem dX2_init_35 : decode cX2_init 35 = .ok (.iconst 5, 1) := by decide +kernel
theorem dX2_init_36 : decode cX2_init 36 = .ok (.newarray .int, 2) := by decide +kernel
theorem dX2_init_38 : decode cX2_init 38 = .ok (.putfield 28, 3) := by decide +kernel
theorem dX2_init_41 : decode cX2_init 41 = .ok (.aload_n 0, 1) := by decide +kernel
theorem dX2_init_42 : decode cX2_init 42 = .ok (.iconst 5, 1) := by decide +kernel
theorem dX2_init_43 : decode cX2_init 43 = .ok (.newarray .int, 2) := by decide +kernel
theorem dX2_init_45 : decode cX2_init 45 = .ok (.putfield 31, 3) := by decide +kernel
theorem dX2_init_48 : decode cX2_init 48 = .ok (.aload_n 0, 1) := by decide +kernel
theorem dX2_init_49 : decode cX2_init 49 = .ok (.iconst 5, 1) := by decide +kernel
theorem dX2_init_50 : decode cX2_init 50 = .ok (.newarray .int, 2) := by decide +kernel
theorem dX2_init_52 : decode cX2_init 52 = .ok (.putfield 34, 3) := by decide +kernel
theorem dX2_init_55 : decode cX2_init 55 = .ok (.return_, 1) := by decide +kernel
theorem dX2_readRules_0 : decode cX2_readRules 0 = .ok (.aload_n 0, 1) := by decide +kernel
theorem dX2_readRules_1 : decode cX2_readRules 1 = .ok (.iconst 0, 1) := by decide +kernel
theorem dX2_readRules_2 : decode cX2_readRules 2 = .ok (.putfield 19, 3) := by decide +kernel
theorem dX2_readRules_5 : decode cX2_readRules 5 = .ok (.aload_n 0, 1) := by decide +kernel
theorem dX2_readRules_6 : decode cX2_readRules 6 = .ok (.iconst 0, 1) := by decide +kernel
theorem dX2_readRules_7 : decode cX2_readRules 7 = .ok (.putfield 22, 3) := by decide +kernel
theorem dX2_readRules_10 : decode cX2_readRules 10 = .ok (.iconst 0, 1) := by decide +kernel
theorem dX2_readRules_11 : decode cX2_readRules 11 = .ok (.istore_n 1, 1) := by decide +kernel
theorem dX2_readRules_12 : decode cX2_readRules 12 = .ok (.iload_n 1, 1) := by decide +kernel
theorem dX2_readRules_13 : decode cX2_readRules 13 = .ok (.iconst 5, 1) := by decide +kernel
theorem dX2_readRules_14 : decode cX2_readRules 14 = .ok (.if_icmp .ge 93, 3) := by decide +kernel
theorem dX2_readRules_17 : decode cX2_readRules 17 = .ok (.aload_n 0, 1) := by decide +kernel
theorem dX2_readRules_18 : decode cX2_readRules 18 = .ok (.iload_n 1, 1) := by decide +kernel
theorem dX2_readRules_19 : decode cX2_readRules 19 = .ok (.invokevirtual 37, 3) := by decide +kernel
theorem dX2_readRules_22 : decode cX2_readRules 22 = .ok (.ifCond .eq 37, 3) := by decide +kernel
theorem dX2_readRules_25 : decode cX2_readRules 25 = .ok (.aload_n 0, 1) := by decide +kernel
theorem dX2_readRules_26 : decode cX2_readRules 26 = .ok (.bipush 44, 2) := by decide +kernel
theorem dX2_readRules_28 : decode cX2_readRules 28 = .ok (.invokevirtual 41, 3) := by decide +kernel
theorem dX2_readRules_31 : decode cX2_readRules 31 = .ok (.ifCond .eq 28, 3) := by decide +kernel
theorem dX2_readRules_34 : decode cX2_readRules 34 = .ok (.aload_n 0, 1) := by decide +kernel
theorem dX2_readRules_35 : decode cX2_readRules 35 = .ok (.iload_n 1, 1) := by decide +kernel
theorem dX2_readRules_36 : decode cX2_readRules 36 = .ok (.invokevirtual 45, 3) := by decide +kernel
theorem dX2_readRules_39 : decode cX2_readRules 39 = .ok (.ifCond .eq 20, 3) := by decide +kernel
theorem dX2_readRules_42 : decode cX2_readRules 42 = .ok (.aload_n 0, 1) := by decide +kernel
theorem dX2_readRules_43 : decode cX2_readRules 43 = .ok (.bipush 44, 2) := by decide +kernel
theorem dX2_readRules_45 : decode cX2_readRules 45 = .ok (.invokevirtual 41, 3) := by decide +kernel
theorem dX2_readRules_48 : decode cX2_readRules 48 = .ok (.ifCond .eq 11, 3) := by decide +kernel
theorem dX2_readRules_51 : decode cX2_readRules 51 = .ok (.aload_n 0, 1) := by decide +kernel
theorem dX2_readRules_52 : decode cX2_readRules 52 = .ok (.iload_n 1, 1) := by decide +kernel
theorem dX2_readRules_53 : decode cX2_readRules 53 = .ok (.invokevirtual 48, 3) := by decide +kernel
theorem dX2_readRules_56 : decode cX2_readRules 56 = .ok (.ifCond .ne 8, 3) := by decide +kernel
theorem dX2_readRules_59 : decode cX2_readRules 59 = .ok (.aload_n 0, 1) := by decide +kernel
theorem dX2_readRules_60 : decode cX2_readRules 60 = .ok (.getfield 19, 3) := by decide +kernel
theorem dX2_readRules_63 : decode cX2_readRules 63 = .ok (.ireturn, 1) := by decide +kernel
theorem dX2_readRules_64 : decode cX2_readRules 64 = .ok (.aload_n 0, 1) := by decide +kernel
theorem dX2_readRules_65 : decode cX2_readRules 65 = .ok (.dup, 1) := by decide +kernel
theorem dX2_readRules_66 : decode cX2_readRules 66 = .ok (.getfield 22, 3) := by decide +kernel
theorem dX2_readRules_69 : decode cX2_readRules 69 = .ok (.iconst 1, 1) := by decide +kernel
theorem dX2_readRules_70 : decode cX2_readRules 70 = .ok (.iadd, 1) := by decide +kernel
theorem dX2_readRules_71 : decode cX2_readRules 71 = .ok (.putfield 22, 3) := by decide +kernel
theorem dX2_readRules_74 : decode cX2_readRules 74 = .ok (.aload_n 0, 1) := by decide +kernel
theorem dX2_readRules_75 : decode cX2_readRules 75 = .ok (.getfield 19, 3) := by decide +kernel
theorem dX2_readRules_78 : decode cX2_readRules 78 = .ok (.aload_n 0, 1) := by decide +kernel
theorem dX2_readRules_79 : decode cX2_readRules 79 = .ok (.getfield 15, 3) := by decide +kernel
theorem dX2_readRules_82 : decode cX2_readRules 82 = .ok (.if_icmp .ne 5, 3) := by decide +kernel
theorem dX2_readRules_85 : decode cX2_readRules 85 = .ok (.iconst (-1), 1) := by decide +kernel
theorem dX2_readRules_86 : decode cX2_readRules 86 = .ok (.ireturn, 1) := by decide +kernel
theorem dX2_readRules_87 : decode cX2_readRules 87 = .ok (.aload_n 0, 1) := by decide +kernel
theorem dX2_readRules_88 : decode cX2_readRules 88 = .ok (.bipush 59, 2) := by decide +kernel
theorem dX2_readRules_90 : decode cX2_readRules 90 = .ok (.invokevirtual 41, 3) := by decide +kernel
theorem dX2_readRules_93 : decode cX2_readRules 93 = .ok (.ifCond .ne 8, 3) := by decide +kernel
theorem dX2_readRules_96 : decode cX2_readRules 96 = .ok (.aload_n 0, 1) := by decide +kernel
theorem dX2_readRules_97 : decode cX2_readRules 97 = .ok (.getfield 19, 3) := by decide +kernel
theorem dX2_readRules_100 : decode cX2_readRules 100 = .ok (.ireturn, 1) := by decide +kernel
theorem dX2_readRules_101 : decode cX2_readRules 101 = .ok (.iinc 1 1, 3) := by decide +kernel
theorem dX2_readRules_104 : decode cX2_readRules 104 = .ok (.goto (-92), 3) := by decide +kernel
theorem dX2_readRules_107 : decode cX2_readRules 107 = .ok (.aload_n 0, 1) := by decide +kernel
theorem dX2_readRules_108 : decode cX2_readRules 108 = .ok (.getfield 19, 3) := by decide +kernel
theorem dX2_readRules_111 : decode cX2_readRules 111 = .ok (.ireturn, 1) := by decide +kernel
theorem dX2_sign_0 : decode cX2_sign 0 = .ok (.aload_n 0, 1) := by decide +kernel
theorem dX2_sign_1 : decode cX2_sign 1 = .ok (.getfield 19, 3) := by decide +kernel
theorem dX2_sign_4 : decode cX2_sign 4 = .ok (.ifCond .lt 35, 3) := by decide +kernel
theorem dX2_sign_7 : decode cX2_sign 7 = .ok (.aload_n 0, 1) := by decide +kernel
theorem dX2_sign_8 : decode cX2_sign 8 = .ok (.getfield 19, 3) := by decide +kernel
theorem dX2_sign_11 : decode cX2_sign 11 = .ok (.aload_n 0, 1) := by decide +kernel
theorem dX2_sign_12 : decode cX2_sign 12 = .ok (.getfield 15, 3) := by decide +kernel
theorem dX2_sign_15 : decode cX2_sign 15 = .ok (.if_icmp .ge 24, 3) := by decide +kernel
theorem dX2_sign_18 : decode cX2_sign 18 = .ok (.aload_n 0, 1) := by decide +kernel
theorem dX2_sign_19 : decode cX2_sign 19 = .ok (.getfield 19, 3) := by decide +kernel
theorem dX2_sign_22 : decode cX2_sign 22 = .ok (.bipush 60, 2) := by decide +kernel
theorem dX2_sign_24 : decode cX2_sign 24 = .ok (.if_icmp .ge 15, 3) := by decide +kernel
theorem dX2_sign_27 : decode cX2_sign 27 = .ok (.aload_n 0, 1) := by decide +kernel
theorem dX2_sign_28 : decode cX2_sign 28 = .ok (.getfield 11, 3) := by decide +kernel
theorem dX2_sign_31 : decode cX2_sign 31 = .ok (.aload_n 0, 1) := by decide +kernel
theorem dX2_sign_32 : decode cX2_sign 32 = .ok (.getfield 19, 3) := by decide +kernel
theorem dX2_sign_35 : decode cX2_sign 35 = .ok (.iaload, 1) := by decide +kernel
theorem dX2_sign_36 : decode cX2_sign 36 = .ok (.goto 4, 3) := by decide +kernel
theorem dX2_sign_39 : decode cX2_sign 39 = .ok (.iconst (-1), 1) := by decide +kernel
theorem dX2_sign_40 : decode cX2_sign 40 = .ok (.ireturn, 1) := by decide +kernel
theorem dX2_digit_0 : decode cX2_digit 0 = .ok (.aload_n 0, 1) := by decide +kernel
theorem dX2_digit_1 : decode cX2_digit 1 = .ok (.invokevirtual 51, 3) := by decide +kernel
theorem dX2_digit_4 : decode cX2_digit 4 = .ok (.istore_n 1, 1) := by decide +kernel
theorem dX2_digit_5 : decode cX2_digit 5 = .ok (.iload_n 1, 1) := by decide +kernel
theorem dX2_digit_6 : decode cX2_digit 6 = .ok (.bipush 48, 2) := by decide +kernel
theorem dX2_digit_8 : decode cX2_digit 8 = .ok (.if_icmp .lt 16, 3) := by decide +kernel
theorem dX2_digit_11 : decode cX2_digit 11 = .ok (.iload_n 1, 1) := by decide +kernel
theorem dX2_digit_12 : decode cX2_digit 12 = .ok (.bipush 57, 2) := by decide +kernel
theorem dX2_digit_14 : decode cX2_digit 14 = .ok (.if_icmp .gt 10, 3) := by decide +kernel
theorem dX2_digit_17 : decode cX2_digit 17 = .ok (.iload_n 1, 1) := by decide +kernel
theorem dX2_digit_18 : decode cX2_digit 18 = .ok (.bipush 48, 2) := by decide +kernel
theorem dX2_digit_20 : decode cX2_digit 20 = .ok (.isub, 1) := by decide +kernel
theorem dX2_digit_21 : decode cX2_digit 21 = .ok (.goto 4, 3) := by decide +kernel
theorem dX2_digit_24 : decode cX2_digit 24 = .ok (.iconst (-1), 1) := by decide +kernel
theorem dX2_digit_25 : decode cX2_digit 25 = .ok (.ireturn, 1) := by decide +kernel
theorem dX2_skip_0 : decode cX2_skip 0 = .ok (.aload_n 0, 1) := by decide +kernel
theorem dX2_skip_1 : decode cX2_skip 1 = .ok (.invokevirtual 51, 3) := by decide +kernel
theorem dX2_skip_4 : decode cX2_skip 4 = .ok (.iload_n 1, 1) := by decide +kernel
theorem dX2_skip_5 : decode cX2_skip 5 = .ok (.if_icmp .eq 5, 3) := by decide +kernel
theorem dX2_skip_8 : decode cX2_skip 8 = .ok (.iconst 0, 1) := by decide +kernel
theorem dX2_skip_9 : decode cX2_skip 9 = .ok (.ireturn, 1) := by decide +kernel
theorem dX2_skip_10 : decode cX2_skip 10 = .ok (.aload_n 0, 1) := by decide +kernel
theorem dX2_skip_11 : decode cX2_skip 11 = .ok (.dup, 1) := by decide +kernel
theorem dX2_skip_12 : decode cX2_skip 12 = .ok (.getfield 19, 3) := by decide +kernel
theorem dX2_skip_15 : decode cX2_skip 15 = .ok (.iconst 1, 1) := by decide +kernel
theorem dX2_skip_16 : decode cX2_skip 16 = .ok (.iadd, 1) := by decide +kernel
theorem dX2_skip_17 : decode cX2_skip 17 = .ok (.putfield 19, 3) := by decide +kernel
theorem dX2_skip_20 : decode cX2_skip 20 = .ok (.iconst 1, 1) := by decide +kernel
theorem dX2_skip_21 : decode cX2_skip 21 = .ok (.ireturn, 1) := by decide +kernel
theorem dX2_readEntry_0 : decode cX2_readEntry 0 = .ok (.iconst 0, 1) := by decide +kernel
theorem dX2_readEntry_1 : decode cX2_readEntry 1 = .ok (.istore_n 2, 1) := by decide +kernel
theorem dX2_readEntry_2 : decode cX2_readEntry 2 = .ok (.iconst 0, 1) := by decide +kernel
theorem dX2_readEntry_3 : decode cX2_readEntry 3 = .ok (.istore_n 3, 1) := by decide +kernel
theorem dX2_readEntry_4 : decode cX2_readEntry 4 = .ok (.sipush 128, 3) := by decide +kernel
theorem dX2_readEntry_7 : decode cX2_readEntry 7 = .ok (.istore 4, 2) := by decide +kernel
theorem dX2_readEntry_9 : decode cX2_readEntry 9 = .ok (.iload 4, 2) := by decide +kernel
theorem dX2_readEntry_11 : decode cX2_readEntry 11 = .ok (.ifCond .le 83, 3) := by decide +kernel
theorem dX2_readEntry_14 : decode cX2_readEntry 14 = .ok (.aload_n 0, 1) := by decide +kernel
theorem dX2_readEntry_15 : decode cX2_readEntry 15 = .ok (.invokevirtual 51, 3) := by decide +kernel
theorem dX2_readEntry_18 : decode cX2_readEntry 18 = .ok (.istore 5, 2) := by decide +kernel
theorem dX2_readEntry_20 : decode cX2_readEntry 20 = .ok (.iload 5, 2) := by decide +kernel
theorem dX2_readEntry_22 : decode cX2_readEntry 22 = .ok (.bipush 48, 2) := by decide +kernel
theorem dX2_readEntry_24 : decode cX2_readEntry 24 = .ok (.if_icmp .eq 19, 3) := by decide +kernel
theorem dX2_readEntry_27 : decode cX2_readEntry 27 = .ok (.iload 5, 2) := by decide +kernel
theorem dX2_readEntry_29 : decode cX2_readEntry 29 = .ok (.bipush 49, 2) := by decide +kernel
theorem dX2_readEntry_31 : decode cX2_readEntry 31 = .ok (.if_icmp .eq 12, 3) := by decide +kernel
theorem dX2_readEntry_34 : decode cX2_readEntry 34 = .ok (.iload 5, 2) := by decide +kernel
theorem dX2_readEntry_36 : decode cX2_readEntry 36 = .ok (.bipush 42, 2) := by decide +kernel
theorem dX2_readEntry_38 : decode cX2_readEntry 38 = .ok (.if_icmp .eq 5, 3) := by decide +kernel
theorem dX2_readEntry_41 : decode cX2_readEntry 41 = .ok (.iconst 0, 1) := by decide +kernel
theorem dX2_readEntry_42 : decode cX2_readEntry 42 = .ok (.ireturn, 1) := by decide +kernel
theorem dX2_readEntry_43 : decode cX2_readEntry 43 = .ok (.iload_n 2, 1) := by decide +kernel
theorem dX2_readEntry_44 : decode cX2_readEntry 44 = .ok (.iload 5, 2) := by decide +kernel
theorem dX2_readEntry_46 : decode cX2_readEntry 46 = .ok (.bipush 42, 2) := by decide +kernel
theorem dX2_readEntry_48 : decode cX2_readEntry 48 = .ok (.if_icmp .ne 7, 3) := by decide +kernel
theorem dX2_readEntry_51 : decode cX2_readEntry 51 = .ok (.iconst 0, 1) := by decide +kernel
theorem dX2_readEntry_52 : decode cX2_readEntry 52 = .ok (.goto 5, 3) := by decide +kernel
theorem dX2_readEntry_55 : decode cX2_readEntry 55 = .ok (.iload 4, 2) := by decide +kernel
theorem dX2_readEntry_57 : decode cX2_readEntry 57 = .ok (.iadd, 1) := by decide +kernel
theorem dX2_readEntry_58 : decode cX2_readEntry 58 = .ok (.istore_n 2, 1) := by decide +kernel
theorem dX2_readEntry_59 : decode cX2_readEntry 59 = .ok (.iload_n 3, 1) := by decide +kernel
theorem dX2_readEntry_60 : decode cX2_readEntry 60 = .ok (.iload 5, 2) := by decide +kernel
theorem dX2_readEntry_62 : decode cX2_readEntry 62 = .ok (.bipush 49, 2) := by decide +kernel
theorem dX2_readEntry_64 : decode cX2_readEntry 64 = .ok (.if_icmp .ne 8, 3) := by decide +kernel
theorem dX2_readEntry_67 : decode cX2_readEntry 67 = .ok (.iload 4, 2) := by decide +kernel
theorem dX2_readEntry_69 : decode cX2_readEntry 69 = .ok (.goto 4, 3) := by decide +kernel
theorem dX2_readEntry_72 : decode cX2_readEntry 72 = .ok (.iconst 0, 1) := by decide +kernel
theorem dX2_readEntry_73 : decode cX2_readEntry 73 = .ok (.iadd, 1) := by decide +kernel
theorem dX2_readEntry_74 : decode cX2_readEntry 74 = .ok (.istore_n 3, 1) := by decide +kernel
theorem dX2_readEntry_75 : decode cX2_readEntry 75 = .ok (.aload_n 0, 1) := by decide +kernel
theorem dX2_readEntry_76 : decode cX2_readEntry 76 = .ok (.dup, 1) := by decide +kernel
theorem dX2_readEntry_77 : decode cX2_readEntry 77 = .ok (.getfield 19, 3) := by decide +kernel
theorem dX2_readEntry_80 : decode cX2_readEntry 80 = .ok (.iconst 1, 1) := by decide +kernel
theorem dX2_readEntry_81 : decode cX2_readEntry 81 = .ok (.iadd, 1) := by decide +kernel
theorem dX2_readEntry_82 : decode cX2_readEntry 82 = .ok (.putfield 19, 3) := by decide +kernel
theorem dX2_readEntry_85 : decode cX2_readEntry 85 = .ok (.iload 4, 2) := by decide +kernel
theorem dX2_readEntry_87 : decode cX2_readEntry 87 = .ok (.iconst 2, 1) := by decide +kernel
theorem dX2_readEntry_88 : decode cX2_readEntry 88 = .ok (.idiv, 1) := by decide +kernel
theorem dX2_readEntry_89 : decode cX2_readEntry 89 = .ok (.istore 4, 2) := by decide +kernel
theorem dX2_readEntry_91 : decode cX2_readEntry 91 = .ok (.goto (-82), 3) := by decide +kernel
theorem dX2_readEntry_94 : decode cX2_readEntry 94 = .ok (.iload_n 1, 1) := by decide +kernel
theorem dX2_readEntry_95 : decode cX2_readEntry 95 = .ok (.ifCond .lt 22, 3) := by decide +kernel
theorem dX2_readEntry_98 : decode cX2_readEntry 98 = .ok (.iload_n 1, 1) := by decide +kernel
theorem dX2_readEntry_99 : decode cX2_readEntry 99 = .ok (.iconst 5, 1) := by decide +kernel
theorem dX2_readEntry_100 : decode cX2_readEntry 100 = .ok (.if_icmp .ge 17, 3) := by decide +kernel
theorem dX2_readEntry_103 : decode cX2_readEntry 103 = .ok (.aload_n 0, 1) := by decide +kernel
theorem dX2_readEntry_104 : decode cX2_readEntry 104 = .ok (.getfield 25, 3) := by decide +kernel
theorem dX2_readEntry_107 : decode cX2_readEntry 107 = .ok (.iload_n 1, 1) := by decide +kernel
theorem dX2_readEntry_108 : decode cX2_readEntry 108 = .ok (.iload_n 2, 1) := by decide +kernel
theorem dX2_readEntry_109 : decode cX2_readEntry 109 = .ok (.iastore, 1) := by decide +kernel
theorem dX2_readEntry_110 : decode cX2_readEntry 110 = .ok (.aload_n 0, 1) := by decide +kernel
theorem dX2_readEntry_111 : decode cX2_readEntry 111 = .ok (.getfield 28, 3) := by decide +kernel
theorem dX2_readEntry_114 : decode cX2_readEntry 114 = .ok (.iload_n 1, 1) := by decide +kernel
theorem dX2_readEntry_115 : decode cX2_readEntry 115 = .ok (.iload_n 3, 1) := by decide +kernel
theorem dX2_readEntry_116 : decode cX2_readEntry 116 = .ok (.iastore, 1) := by decide +kernel
theorem dX2_readEntry_117 : decode cX2_readEntry 117 = .ok (.iconst 1, 1) := by decide +kernel
theorem dX2_readEntry_118 : decode cX2_readEntry 118 = .ok (.ireturn, 1) := by decide +kernel
theorem dX2_readRank_0 : decode cX2_readRank 0 = .ok (.aload_n 0, 1) := by decide +kernel
theorem dX2_readRank_1 : decode cX2_readRank 1 = .ok (.invokevirtual 55, 3) := by decide +kernel
theorem dX2_readRank_4 : decode cX2_readRank 4 = .ok (.istore_n 2, 1) := by decide +kernel
theorem dX2_readRank_5 : decode cX2_readRank 5 = .ok (.iload_n 2, 1) := by decide +kernel
theorem dX2_readRank_6 : decode cX2_readRank 6 = .ok (.ifCond .ge 5, 3) := by decide +kernel
theorem dX2_readRank_9 : decode cX2_readRank 9 = .ok (.iconst 0, 1) := by decide +kernel
theorem dX2_readRank_10 : decode cX2_readRank 10 = .ok (.ireturn, 1) := by decide +kernel
theorem dX2_readRank_11 : decode cX2_readRank 11 = .ok (.aload_n 0, 1) := by decide +kernel
theorem dX2_readRank_12 : decode cX2_readRank 12 = .ok (.dup, 1) := by decide +kernel
theorem dX2_readRank_13 : decode cX2_readRank 13 = .ok (.getfield 19, 3) := by decide +kernel
theorem dX2_readRank_16 : decode cX2_readRank 16 = .ok (.iconst 1, 1) := by decide +kernel
theorem dX2_readRank_17 : decode cX2_readRank 17 = .ok (.iadd, 1) := by decide +kernel
theorem dX2_readRank_18 : decode cX2_readRank 18 = .ok (.putfield 19, 3) := by decide +kernel
theorem dX2_readRank_21 : decode cX2_readRank 21 = .ok (.aload_n 0, 1) := by decide +kernel
theorem dX2_readRank_22 : decode cX2_readRank 22 = .ok (.invokevirtual 55, 3) := by decide +kernel
theorem dX2_readRank_25 : decode cX2_readRank 25 = .ok (.istore_n 3, 1) := by decide +kernel
theorem dX2_readRank_26 : decode cX2_readRank 26 = .ok (.iload_n 3, 1) := by decide +kernel
theorem dX2_readRank_27 : decode cX2_readRank 27 = .ok (.ifCond .lt 20, 3) := by decide +kernel
theorem dX2_readRank_30 : decode cX2_readRank 30 = .ok (.bipush 10, 2) := by decide +kernel
theorem dX2_readRank_32 : decode cX2_readRank 32 = .ok (.iload_n 2, 1) := by decide +kernel
theorem dX2_readRank_33 : decode cX2_readRank 33 = .ok (.imul, 1) := by decide +kernel
theorem dX2_readRank_34 : decode cX2_readRank 34 = .ok (.iload_n 3, 1) := by decide +kernel
theorem dX2_readRank_35 : decode cX2_readRank 35 = .ok (.iadd, 1) := by decide +kernel
theorem dX2_readRank_36 : decode cX2_readRank 36 = .ok (.istore_n 2, 1) := by decide +kernel
theorem dX2_readRank_37 : decode cX2_readRank 37 = .ok (.aload_n 0, 1) := by decide +kernel
theorem dX2_readRank_38 : decode cX2_readRank 38 = .ok (.dup, 1) := by decide +kernel
theorem dX2_readRank_39 : decode cX2_readRank 39 = .ok (.getfield 19, 3) := by decide +kernel
theorem dX2_readRank_42 : decode cX2_readRank 42 = .ok (.iconst 1, 1) := by decide +kernel
theorem dX2_readRank_43 : decode cX2_readRank 43 = .ok (.iadd, 1) := by decide +kernel
theorem dX2_readRank_44 : decode cX2_readRank 44 = .ok (.putfield 19, 3) := by decide +kernel
theorem dX2_readRank_47 : decode cX2_readRank 47 = .ok (.iload_n 1, 1) := by decide +kernel
theorem dX2_readRank_48 : decode cX2_readRank 48 = .ok (.ifCond .lt 15, 3) := by decide +kernel
theorem dX2_readRank_51 : decode cX2_readRank 51 = .ok (.iload_n 1, 1) := by decide +kernel
theorem dX2_readRank_52 : decode cX2_readRank 52 = .ok (.iconst 5, 1) := by decide +kernel
theorem dX2_readRank_53 : decode cX2_readRank 53 = .ok (.if_icmp .ge 10, 3) := by decide +kernel
theorem dX2_readRank_56 : decode cX2_readRank 56 = .ok (.aload_n 0, 1) := by decide +kernel
theorem dX2_readRank_57 : decode cX2_readRank 57 = .ok (.getfield 31, 3) := by decide +kernel
theorem dX2_readRank_60 : decode cX2_readRank 60 = .ok (.iload_n 1, 1) := by decide +kernel
theorem dX2_readRank_61 : decode cX2_readRank 61 = .ok (.iload_n 2, 1) := by decide +kernel
theorem dX2_readRank_62 : decode cX2_readRank 62 = .ok (.iastore, 1) := by decide +kernel
theorem dX2_readRank_63 : decode cX2_readRank 63 = .ok (.iconst 1, 1) := by decide +kernel
theorem dX2_readRank_64 : decode cX2_readRank 64 = .ok (.ireturn, 1) := by decide +kernel
theorem dX2_readAction_0 : decode cX2_readAction 0 = .ok (.aload_n 0, 1) := by decide +kernel
theorem dX2_readAction_1 : decode cX2_readAction 1 = .ok (.invokevirtual 55, 3) := by decide +kernel
theorem dX2_readAction_4 : decode cX2_readAction 4 = .ok (.istore_n 2, 1) := by decide +kernel
theorem dX2_readAction_5 : decode cX2_readAction 5 = .ok (.iload_n 2, 1) := by decide +kernel
theorem dX2_readAction_6 : decode cX2_readAction 6 = .ok (.ifCond .ge 5, 3) := by decide +kernel
theorem dX2_readAction_9 : decode cX2_readAction 9 = .ok (.iconst 0, 1) := by decide +kernel
theorem dX2_readAction_10 : decode cX2_readAction 10 = .ok (.ireturn, 1) := by decide +kernel
theorem dX2_readAction_11 : decode cX2_readAction 11 = .ok (.aload_n 0, 1) := by decide +kernel
theorem dX2_readAction_12 : decode cX2_readAction 12 = .ok (.dup, 1) := by decide +kernel
theorem dX2_readAction_13 : decode cX2_readAction 13 = .ok (.getfield 19, 3) := by decide +kernel
theorem dX2_readAction_16 : decode cX2_readAction 16 = .ok (.iconst 1, 1) := by decide +kernel
theorem dX2_readAction_17 : decode cX2_readAction 17 = .ok (.iadd, 1) := by decide +kernel
theorem dX2_readAction_18 : decode cX2_readAction 18 = .ok (.putfield 19, 3) := by decide +kernel
theorem dX2_readAction_21 : decode cX2_readAction 21 = .ok (.iload_n 1, 1) := by decide +kernel
theorem dX2_readAction_22 : decode cX2_readAction 22 = .ok (.ifCond .lt 15, 3) := by decide +kernel
theorem dX2_readAction_25 : decode cX2_readAction 25 = .ok (.iload_n 1, 1) := by decide +kernel
theorem dX2_readAction_26 : decode cX2_readAction 26 = .ok (.iconst 5, 1) := by decide +kernel
theorem dX2_readAction_27 : decode cX2_readAction 27 = .ok (.if_icmp .ge 10, 3) := by decide +kernel
theorem dX2_readAction_30 : decode cX2_readAction 30 = .ok (.aload_n 0, 1) := by decide +kernel
theorem dX2_readAction_31 : decode cX2_readAction 31 = .ok (.getfield 34, 3) := by decide +kernel
theorem dX2_readAction_34 : decode cX2_readAction 34 = .ok (.iload_n 1, 1) := by decide +kernel
theorem dX2_readAction_35 : decode cX2_readAction 35 = .ok (.iload_n 2, 1) := by decide +kernel
theorem dX2_readAction_36 : decode cX2_readAction 36 = .ok (.iastore, 1) := by decide +kernel
theorem dX2_readAction_37 : decode cX2_readAction 37 = .ok (.iconst 1, 1) := by decide +kernel
theorem dX2_readAction_38 : decode cX2_readAction 38 = .ok (.ireturn, 1) := by decide +kernel
theorem dX3_init_0 : decode cX3_init 0 = .ok (.aload_n 0, 1) := by decide +kernel
theorem dX3_init_1 : decode cX3_init 1 = .ok (.invokespecial 1, 3) := by decide +kernel
theorem dX3_init_4 : decode cX3_init 4 = .ok (.aload_n 0, 1) := by decide +kernel
theorem dX3_init_5 : decode cX3_init 5 = .ok (.new 7, 3) := by decide +kernel
theorem dX3_init_8 : decode cX3_init 8 = .ok (.dup, 1) := by decide +kernel
theorem dX3_init_9 : decode cX3_init 9 = .ok (.invokespecial 9, 3) := by decide +kernel
theorem dX3_init_12 : decode cX3_init 12 = .ok (.putfield 10, 3) := by decide +kernel
theorem dX3_init_15 : decode cX3_init 15 = .ok (.aload_n 0, 1) := by decide +kernel
theorem dX3_init_16 : decode cX3_init 16 = .ok (.new 7, 3) := by decide +kernel
theorem dX3_init_19 : decode cX3_init 19 = .ok (.dup, 1) := by decide +kernel
theorem dX3_init_20 : decode cX3_init 20 = .ok (.invokespecial 9, 3) := by decide +kernel
theorem dX3_init_23 : decode cX3_init 23 = .ok (.putfield 16, 3) := by decide +kernel
theorem dX3_init_26 : decode cX3_init 26 = .ok (.aload_n 0, 1) := by decide +kernel
theorem dX3_init_27 : decode cX3_init 27 = .ok (.new 19, 3) := by decide +kernel
theorem dX3_init_30 : decode cX3_init 30 = .ok (.dup, 1) := by decide +kernel
theorem dX3_init_31 : decode cX3_init 31 = .ok (.invokespecial 21, 3) := by decide +kernel
theorem dX3_init_34 : decode cX3_init 34 = .ok (.putfield 22, 3) := by decide +kernel
theorem dX3_init_37 : decode cX3_init 37 = .ok (.aload_n 0, 1) := by decide +kernel
theorem dX3_init_38 : decode cX3_init 38 = .ok (.new 26, 3) := by decide +kernel
theorem dX3_init_41 : decode cX3_init 41 = .ok (.dup, 1) := by decide +kernel
theorem dX3_init_42 : decode cX3_init 42 = .ok (.invokespecial 28, 3) := by decide +kernel
theorem dX3_init_45 : decode cX3_init 45 = .ok (.putfield 29, 3) := by decide +kernel
theorem dX3_init_48 : decode cX3_init 48 = .ok (.aload_n 0, 1) := by decide +kernel
theorem dX3_init_49 : decode cX3_init 49 = .ok (.iconst 0, 1) := by decide +kernel
theorem dX3_init_50 : decode cX3_init 50 = .ok (.putfield 33, 3) := by decide +kernel
theorem dX3_init_53 : decode cX3_init 53 = .ok (.return_, 1) := by decide +kernel
theorem dX3_addRule_0 : decode cX3_addRule 0 = .ok (.iload_n 1, 1) := by decide +kernel
theorem dX3_addRule_1 : decode cX3_addRule 1 = .ok (.invokestatic 37, 3) := by decide +kernel
theorem dX3_addRule_4 : decode cX3_addRule 4 = .ok (.ifCond .eq 25, 3) := by decide +kernel
theorem dX3_addRule_7 : decode cX3_addRule 7 = .ok (.iload_n 2, 1) := by decide +kernel
theorem dX3_addRule_8 : decode cX3_addRule 8 = .ok (.invokestatic 37, 3) := by decide +kernel
theorem dX3_addRule_11 : decode cX3_addRule 11 = .ok (.ifCond .eq 18, 3) := by decide +kernel
theorem dX3_addRule_14 : decode cX3_addRule 14 = .ok (.iload_n 3, 1) := by decide +kernel
theorem dX3_addRule_15 : decode cX3_addRule 15 = .ok (.invokestatic 41, 3) := by decide +kernel
theorem dX3_addRule_18 : decode cX3_addRule 18 = .ok (.ifCond .eq 11, 3) := by decide +kernel
theorem dX3_addRule_21 : decode cX3_addRule 21 = .ok (.iload 4, 2) := by decide +kernel
theorem dX3_addRule_23 : decode cX3_addRule 23 = .ok (.invokestatic 44, 3) := by decide +kernel
theorem dX3_addRule_26 : decode cX3_addRule 26 = .ok (.ifCond .ne 6, 3) := by decide +kernel
theorem dX3_addRule_29 : decode cX3_addRule 29 = .ok (.bipush (-2), 2) := by decide +kernel
theorem dX3_addRule_31 : decode cX3_addRule 31 = .ok (.ireturn, 1) := by decide +kernel
theorem dX3_addRule_32 : decode cX3_addRule 32 = .ok (.aload_n 0, 1) := by decide +kernel
theorem dX3_addRule_33 : decode cX3_addRule 33 = .ok (.getfield 10, 3) := by decide +kernel
theorem dX3_addRule_36 : decode cX3_addRule 36 = .ok (.invokevirtual 47, 3) := by decide +kernel
theorem dX3_addRule_39 : decode cX3_addRule 39 = .ok (.ifCond .ne 6, 3) := by decide +kernel
theorem dX3_addRule_42 : decode cX3_addRule 42 = .ok (.bipush (-3), 2) := by decide +kernel
theorem dX3_addRule_44 : decode cX3_addRule 44 = .ok (.ireturn, 1) := by decide +kernel
theorem dX3_addRule_45 : decode cX3_addRule 45 = .ok (.aload_n 0, 1) := by decide +kernel
theorem dX3_addRule_46 : decode cX3_addRule 46 = .ok (.getfield 22, 3) := by decide +kernel
theorem dX3_addRule_49 : decode cX3_addRule 49 = .ok (.aload_n 0, 1) := by decide +kernel
theorem dX3_addRule_50 : decode cX3_addRule 50 = .ok (.getfield 10, 3) := by decide +kernel
theorem dX3_addRule_53 : decode cX3_addRule 53 = .ok (.invokevirtual 51, 3) := by decide +kernel
theorem dX3_addRule_56 : decode cX3_addRule 56 = .ok (.aload_n 0, 1) := by decide +kernel
theorem dX3_addRule_57 : decode cX3_addRule 57 = .ok (.getfield 10, 3) := by decide +kernel
theorem dX3_addRule_60 : decode cX3_addRule 60 = .ok (.iload_n 1, 1) := by decide +kernel
theorem dX3_addRule_61 : decode cX3_addRule 61 = .ok (.iload_n 2, 1) := by decide +kernel
theorem dX3_addRule_62 : decode cX3_addRule 62 = .ok (.iload_n 3, 1) := by decide +kernel
theorem dX3_addRule_63 : decode cX3_addRule 63 = .ok (.iload 4, 2) := by decide +kernel
theorem dX3_addRule_65 : decode cX3_addRule 65 = .ok (.invokevirtual 55, 3) := by decide +kernel
theorem dX3_addRule_68 : decode cX3_addRule 68 = .ok (.ireturn, 1) := by decide +kernel
theorem dX3_addRange_0 : decode cX3_addRange 0 = .ok (.iload_n 1, 1) := by decide +kernel
theorem dX3_addRange_1 : decode cX3_addRange 1 = .ok (.iload_n 2, 1) := by decide +kernel
theorem dX3_addRange_2 : decode cX3_addRange 2 = .ok (.invokestatic 59, 3) := by decide +kernel
theorem dX3_addRange_5 : decode cX3_addRange 5 = .ok (.ifCond .eq 18, 3) := by decide +kernel
theorem dX3_addRange_8 : decode cX3_addRange 8 = .ok (.iload_n 3, 1) := by decide +kernel
theorem dX3_addRange_9 : decode cX3_addRange 9 = .ok (.invokestatic 41, 3) := by decide +kernel
theorem dX3_addRange_12 : decode cX3_addRange 12 = .ok (.ifCond .eq 11, 3) := by decide +kernel
theorem dX3_addRange_15 : decode cX3_addRange 15 = .ok (.iload 4, 2) := by decide +kernel
theorem dX3_addRange_17 : decode cX3_addRange 17 = .ok (.invokestatic 44, 3) := by decide +kernel
theorem dX3_addRange_20 : decode cX3_addRange 20 = .ok (.ifCond .ne 6, 3) := by decide +kernel
theorem dX3_addRange_23 : decode cX3_addRange 23 = .ok (.bipush (-2), 2) := by decide +kernel
theorem dX3_addRange_25 : decode cX3_addRange 25 = .ok (.ireturn, 1) := by decide +kernel
theorem dX3_addRange_26 : decode cX3_addRange 26 = .ok (.aload_n 0, 1) := by decide +kernel
theorem dX3_addRange_27 : decode cX3_addRange 27 = .ok (.getfield 10, 3) := by decide +kernel
theorem dX3_addRange_30 : decode cX3_addRange 30 = .ok (.invokevirtual 47, 3) := by decide +kernel
theorem dX3_addRange_33 : decode cX3_addRange 33 = .ok (.iload_n 1, 1) := by decide +kernel
theorem dX3_addRange_34 : decode cX3_addRange 34 = .ok (.iload_n 2, 1) := by decide +kernel
theorem dX3_addRange_35 : decode cX3_addRange 35 = .ok (.invokestatic 63, 3) := by decide +kernel
theorem dX3_addRange_38 : decode cX3_addRange 38 = .ok (.if_icmp .ge 6, 3) := by decide +kernel
theorem dX3_addRange_41 : decode cX3_addRange 41 = .ok (.bipush (-3), 2) := by decide +kernel
theorem dX3_addRange_43 : decode cX3_addRange 43 = .ok (.ireturn, 1) := by decide +kernel
theorem dX3_addRange_44 : decode cX3_addRange 44 = .ok (.aload_n 0, 1) := by decide +kernel
theorem dX3_addRange_45 : decode cX3_addRange 45 = .ok (.getfield 22, 3) := by decide +kernel
theorem dX3_addRange_48 : decode cX3_addRange 48 = .ok (.aload_n 0, 1) := by decide +kernel
theorem dX3_addRange_49 : decode cX3_addRange 49 = .ok (.getfield 10, 3) := by decide +kernel
theorem dX3_addRange_52 : decode cX3_addRange 52 = .ok (.invokevirtual 51, 3) := by decide +kernel
theorem dX3_addRange_55 : decode cX3_addRange 55 = .ok (.aload_n 0, 1) := by decide +kernel
theorem dX3_addRange_56 : decode cX3_addRange 56 = .ok (.getfield 10, 3) := by decide +kernel
theorem dX3_addRange_59 : decode cX3_addRange 59 = .ok (.iload_n 1, 1) := by decide +kernel
theorem dX3_addRange_60 : decode cX3_addRange 60 = .ok (.iload_n 2, 1) := by decide +kernel
theorem dX3_addRange_61 : decode cX3_addRange 61 = .ok (.iload_n 3, 1) := by decide +kernel
theorem dX3_addRange_62 : decode cX3_addRange 62 = .ok (.iload 4, 2) := by decide +kernel
theorem dX3_addRange_64 : decode cX3_addRange 64 = .ok (.invokevirtual 67, 3) := by decide +kernel
theorem dX3_addRange_67 : decode cX3_addRange 67 = .ok (.ireturn, 1) := by decide +kernel
theorem dX3_remove_0 : decode cX3_remove 0 = .ok (.aload_n 0, 1) := by decide +kernel
theorem dX3_remove_1 : decode cX3_remove 1 = .ok (.getfield 10, 3) := by decide +kernel
theorem dX3_remove_4 : decode cX3_remove 4 = .ok (.iload_n 1, 1) := by decide +kernel
theorem dX3_remove_5 : decode cX3_remove 5 = .ok (.invokevirtual 70, 3) := by decide +kernel
theorem dX3_remove_8 : decode cX3_remove 8 = .ok (.istore_n 2, 1) := by decide +kernel
theorem dX3_remove_9 : decode cX3_remove 9 = .ok (.iload_n 2, 1) := by decide +kernel
theorem dX3_remove_10 : decode cX3_remove 10 = .ok (.ifCond .ne 5, 3) := by decide +kernel
theorem dX3_remove_13 : decode cX3_remove 13 = .ok (.iconst (-1), 1) := by decide +kernel
theorem dX3_remove_14 : decode cX3_remove 14 = .ok (.ireturn, 1) := by decide +kernel
theorem dX3_remove_15 : decode cX3_remove 15 = .ok (.aload_n 0, 1) := by decide +kernel
theorem dX3_remove_16 : decode cX3_remove 16 = .ok (.getfield 22, 3) := by decide +kernel
theorem dX3_remove_19 : decode cX3_remove 19 = .ok (.aload_n 0, 1) := by decide +kernel
theorem dX3_remove_20 : decode cX3_remove 20 = .ok (.getfield 10, 3) := by decide +kernel
theorem dX3_remove_23 : decode cX3_remove 23 = .ok (.invokevirtual 51, 3) := by decide +kernel
theorem dX3_remove_26 : decode cX3_remove 26 = .ok (.aload_n 0, 1) := by decide +kernel
theorem dX3_remove_27 : decode cX3_remove 27 = .ok (.getfield 10, 3) := by decide +kernel
theorem dX3_remove_30 : decode cX3_remove 30 = .ok (.iload_n 1, 1) := by decide +kernel
theorem dX3_remove_31 : decode cX3_remove 31 = .ok (.invokevirtual 74, 3) := by decide +kernel
theorem dX3_remove_34 : decode cX3_remove 34 = .ok (.iload_n 2, 1) := by decide +kernel
theorem dX3_remove_35 : decode cX3_remove 35 = .ok (.ireturn, 1) := by decide +kernel
theorem dX3_setPlacing_0 : decode cX3_setPlacing 0 = .ok (.iload_n 1, 1) := by decide +kernel
theorem dX3_setPlacing_1 : decode cX3_setPlacing 1 = .ok (.ifCond .lt 8, 3) := by decide +kernel
theorem dX3_setPlacing_4 : decode cX3_setPlacing 4 = .ok (.iload_n 1, 1) := by decide +kernel
theorem dX3_setPlacing_5 : decode cX3_setPlacing 5 = .ok (.iconst 3, 1) := by decide +kernel
theorem dX3_setPlacing_6 : decode cX3_setPlacing 6 = .ok (.if_icmp .lt 6, 3) := by decide +kernel
theorem dX3_setPlacing_9 : decode cX3_setPlacing 9 = .ok (.bipush (-2), 2) := by decide +kernel
theorem dX3_setPlacing_11 : decode cX3_setPlacing 11 = .ok (.ireturn, 1) := by decide +kernel
theorem dX3_setPlacing_12 : decode cX3_setPlacing 12 = .ok (.aload_n 0, 1) := by decide +kernel
theorem dX3_setPlacing_13 : decode cX3_setPlacing 13 = .ok (.getfield 10, 3) := by decide +kernel
theorem dX3_setPlacing_16 : decode cX3_setPlacing 16 = .ok (.getfield 78, 3) := by decide +kernel
theorem dX3_setPlacing_19 : decode cX3_setPlacing 19 = .ok (.istore_n 2, 1) := by decide +kernel
theorem dX3_setPlacing_20 : decode cX3_setPlacing 20 = .ok (.iload_n 1, 1) := by decide +kernel
theorem dX3_setPlacing_21 : decode cX3_setPlacing 21 = .ok (.iload_n 2, 1) := by decide +kernel
theorem dX3_setPlacing_22 : decode cX3_setPlacing 22 = .ok (.if_icmp .ne 6, 3) := by decide +kernel
theorem dX3_setPlacing_25 : decode cX3_setPlacing 25 = .ok (.bipush (-4), 2) := by decide +kernel
theorem dX3_setPlacing_27 : decode cX3_setPlacing 27 = .ok (.ireturn, 1) := by decide +kernel
theorem dX3_setPlacing_28 : decode cX3_setPlacing 28 = .ok (.aload_n 0, 1) := by decide +kernel
theorem dX3_setPlacing_29 : decode cX3_setPlacing 29 = .ok (.getfield 22, 3) := by decide +kernel
theorem dX3_setPlacing_32 : decode cX3_setPlacing 32 = .ok (.aload_n 0, 1) := by decide +kernel
theorem dX3_setPlacing_33 : decode cX3_setPlacing 33 = .ok (.getfield 10, 3) := by decide +kernel
theorem dX3_setPlacing_36 : decode cX3_setPlacing 36 = .ok (.invokevirtual 51, 3) := by decide +kernel
theorem dX3_setPlacing_39 : decode cX3_setPlacing 39 = .ok (.aload_n 0, 1) := by decide +kernel
theorem dX3_setPlacing_40 : decode cX3_setPlacing 40 = .ok (.getfield 10, 3) := by decide +kernel
theorem dX3_setPlacing_43 : decode cX3_setPlacing 43 = .ok (.iload_n 1, 1) := by decide +kernel
theorem dX3_setPlacing_44 : decode cX3_setPlacing 44 = .ok (.putfield 78, 3) := by decide +kernel
theorem dX3_setPlacing_47 : decode cX3_setPlacing 47 = .ok (.iload_n 2, 1) := by decide +kernel
theorem dX3_setPlacing_48 : decode cX3_setPlacing 48 = .ok (.ireturn, 1) := by decide +kernel
theorem dX3_compact_0 : decode cX3_compact 0 = .ok (.aload_n 0, 1) := by decide +kernel
theorem dX3_compact_1 : decode cX3_compact 1 = .ok (.bipush 32, 2) := by decide +kernel
theorem dX3_compact_3 : decode cX3_compact 3 = .ok (.invokevirtual 82, 3) := by decide +kernel
theorem dX3_compact_6 : decode cX3_compact 6 = .ok (.ireturn, 1) := by decide +kernel
theorem dX3_spread_0 : decode cX3_spread 0 = .ok (.aload_n 0, 1) := by decide +kernel
theorem dX3_spread_1 : decode cX3_spread 1 = .ok (.aload_n 0, 1) := by decide +kernel
theorem dX3_spread_2 : decode cX3_spread 2 = .ok (.getfield 10, 3) := by decide +kernel
theorem dX3_spread_5 : decode cX3_spread 5 = .ok (.invokevirtual 85, 3) := by decide +kernel
theorem dX3_spread_8 : decode cX3_spread 8 = .ok (.invokevirtual 82, 3) := by decide +kernel
theorem dX3_spread_11 : decode cX3_spread 11 = .ok (.ireturn, 1) := by decide +kernel
theorem dX3_search_0 : decode cX3_search 0 = .ok (.iload_n 1, 1) := by decide +kernel
theorem dX3_search_1 : decode cX3_search 1 = .ok (.invokestatic 37, 3) := by decide +kernel
theorem dX3_search_4 : decode cX3_search 4 = .ok (.ifCond .ne 6, 3) := by decide +kernel
theorem dX3_search_7 : decode cX3_search 7 = .ok (.bipush (-2), 2) := by decide +kernel
theorem dX3_search_9 : decode cX3_search 9 = .ok (.ireturn, 1) := by decide +kernel
theorem dX3_search_10 : decode cX3_search 10 = .ok (.aload_n 0, 1) := by decide +kernel
theorem dX3_search_11 : decode cX3_search 11 = .ok (.getfield 10, 3) := by decide +kernel
theorem dX3_search_14 : decode cX3_search 14 = .ok (.iload_n 1, 1) := by decide +kernel
theorem dX3_search_15 : decode cX3_search 15 = .ok (.invokevirtual 88, 3) := by decide +kernel
theorem dX3_search_18 : decode cX3_search 18 = .ok (.istore_n 2, 1) := by decide +kernel
theorem dX3_search_19 : decode cX3_search 19 = .ok (.iload_n 2, 1) := by decide +kernel
theorem dX3_search_20 : decode cX3_search 20 = .ok (.iconst (-1), 1) := by decide +kernel
theorem dX3_search_21 : decode cX3_search 21 = .ok (.if_icmp .ne 6, 3) := by decide +kernel
theorem dX3_search_24 : decode cX3_search 24 = .ok (.bipush (-4), 2) := by decide +kernel
theorem dX3_search_26 : decode cX3_search 26 = .ok (.ireturn, 1) := by decide +kernel
theorem dX3_search_27 : decode cX3_search 27 = .ok (.aload_n 0, 1) := by decide +kernel
theorem dX3_search_28 : decode cX3_search 28 = .ok (.getfield 22, 3) := by decide +kernel
theorem dX3_search_31 : decode cX3_search 31 = .ok (.aload_n 0, 1) := by decide +kernel
theorem dX3_search_32 : decode cX3_search 32 = .ok (.getfield 10, 3) := by decide +kernel
theorem dX3_search_35 : decode cX3_search 35 = .ok (.invokevirtual 51, 3) := by decide +kernel
theorem dX3_search_38 : decode cX3_search 38 = .ok (.aload_n 0, 1) := by decide +kernel
theorem dX3_search_39 : decode cX3_search 39 = .ok (.getfield 10, 3) := by decide +kernel
theorem dX3_search_42 : decode cX3_search 42 = .ok (.iload_n 1, 1) := by decide +kernel
theorem dX3_search_43 : decode cX3_search 43 = .ok (.iload_n 2, 1) := by decide +kernel
theorem dX3_search_44 : decode cX3_search 44 = .ok (.invokevirtual 91, 3) := by decide +kernel
theorem dX3_search_47 : decode cX3_search 47 = .ok (.aload_n 0, 1) := by decide +kernel
theorem dX3_search_48 : decode cX3_search 48 = .ok (.getfield 10, 3) := by decide +kernel
theorem dX3_search_51 : decode cX3_search 51 = .ok (.aload_n 0, 1) := by decide +kernel
theorem dX3_search_52 : decode cX3_search 52 = .ok (.getfield 10, 3) := by decide +kernel
theorem dX3_search_55 : decode cX3_search 55 = .ok (.getfield 95, 3) := by decide +kernel
theorem dX3_search_58 : decode cX3_search 58 = .ok (.iload_n 2, 1) := by decide +kernel
theorem dX3_search_59 : decode cX3_search 59 = .ok (.invokevirtual 99, 3) := by decide +kernel
theorem dX3_search_62 : decode cX3_search 62 = .ok (.ireturn, 1) := by decide +kernel
theorem dX3_addText_0 : decode cX3_addText 0 = .ok (.aload_n 0, 1) := by decide +kernel
theorem dX3_addText_1 : decode cX3_addText 1 = .ok (.getfield 29, 3) := by decide +kernel
theorem dX3_addText_4 : decode cX3_addText 4 = .ok (.invokevirtual 110, 3) := by decide +kernel
theorem dX3_addText_7 : decode cX3_addText 7 = .ok (.istore_n 1, 1) := by decide +kernel
theorem dX3_addText_8 : decode cX3_addText 8 = .ok (.iload_n 1, 1) := by decide +kernel
theorem dX3_addText_9 : decode cX3_addText 9 = .ok (.iconst (-1), 1) := by decide +kernel
theorem dX3_addText_10 : decode cX3_addText 10 = .ok (.if_icmp .eq 8, 3) := by decide +kernel
theorem dX3_addText_13 : decode cX3_addText 13 = .ok (.bipush (-100), 2) := by decide +kernel
theorem dX3_addText_15 : decode cX3_addText 15 = .ok (.iload_n 1, 1) := by decide +kernel
theorem dX3_addText_16 : decode cX3_addText 16 = .ok (.isub, 1) := by decide +kernel
theorem dX3_addText_17 : decode cX3_addText 17 = .ok (.ireturn, 1) := by decide +kernel
theorem dX3_addText_18 : decode cX3_addText 18 = .ok (.aload_n 0, 1) := by decide +kernel
theorem dX3_addText_19 : decode cX3_addText 19 = .ok (.getfield 29, 3) := by decide +kernel
theorem dX3_addText_22 : decode cX3_addText 22 = .ok (.getfield 113, 3) := by decide +kernel
theorem dX3_addText_25 : decode cX3_addText 25 = .ok (.istore_n 2, 1) := by decide +kernel
theorem dX3_addText_26 : decode cX3_addText 26 = .ok (.aload_n 0, 1) := by decide +kernel
theorem dX3_addText_27 : decode cX3_addText 27 = .ok (.getfield 10, 3) := by decide +kernel
theorem dX3_addText_30 : decode cX3_addText 30 = .ok (.invokevirtual 47, 3) := by decide +kernel
theorem dX3_addText_33 : decode cX3_addText 33 = .ok (.iload_n 2, 1) := by decide +kernel
theorem dX3_addText_34 : decode cX3_addText 34 = .ok (.if_icmp .ge 6, 3) := by decide +kernel
theorem dX3_addText_37 : decode cX3_addText 37 = .ok (.bipush (-3), 2) := by decide +kernel
theorem dX3_addText_39 : decode cX3_addText 39 = .ok (.ireturn, 1) := by decide +kernel
theorem dX3_addText_40 : decode cX3_addText 40 = .ok (.aload_n 0, 1) := by decide +kernel
theorem dX3_addText_41 : decode cX3_addText 41 = .ok (.getfield 22, 3) := by decide +kernel
theorem dX3_addText_44 : decode cX3_addText 44 = .ok (.aload_n 0, 1) := by decide +kernel
theorem dX3_addText_45 : decode cX3_addText 45 = .ok (.getfield 10, 3) := by decide +kernel
theorem dX3_addText_48 : decode cX3_addText 48 = .ok (.invokevirtual 51, 3) := by decide +kernel
theorem dX3_addText_51 : decode cX3_addText 51 = .ok (.iconst 0, 1) := by decide +kernel
theorem dX3_addText_52 : decode cX3_addText 52 = .ok (.istore_n 3, 1) := by decide +kernel
theorem dX3_addText_53 : decode cX3_addText 53 = .ok (.iload_n 3, 1) := by decide +kernel
theorem dX3_addText_54 : decode cX3_addText 54 = .ok (.iload_n 2, 1) := by decide +kernel
theorem dX3_addText_55 : decode cX3_addText 55 = .ok (.if_icmp .ge 58, 3) := by decide +kernel
theorem dX3_addText_58 : decode cX3_addText 58 = .ok (.iload_n 3, 1) := by decide +kernel
theorem dX3_addText_59 : decode cX3_addText 59 = .ok (.iconst 5, 1) := by decide +kernel
theorem dX3_addText_60 : decode cX3_addText 60 = .ok (.if_icmp .ge 53, 3) := by decide +kernel
theorem dX3_addText_63 : decode cX3_addText 63 = .ok (.aload_n 0, 1) := by decide +kernel
theorem dX3_addText_64 : decode cX3_addText 64 = .ok (.getfield 10, 3) := by decide +kernel
theorem dX3_addText_67 : decode cX3_addText 67 = .ok (.aload_n 0, 1) := by decide +kernel
theorem dX3_addText_68 : decode cX3_addText 68 = .ok (.getfield 29, 3) := by decide +kernel
theorem dX3_addText_71 : decode cX3_addText 71 = .ok (.getfield 116, 3) := by decide +kernel
theorem dX3_addText_74 : decode cX3_addText 74 = .ok (.iload_n 3, 1) := by decide +kernel
theorem dX3_addText_75 : decode cX3_addText 75 = .ok (.iaload, 1) := by decide +kernel
theorem dX3_addText_76 : decode cX3_addText 76 = .ok (.aload_n 0, 1) := by decide +kernel
theorem dX3_addText_77 : decode cX3_addText 77 = .ok (.getfield 29, 3) := by decide +kernel
theorem dX3_addText_80 : decode cX3_addText 80 = .ok (.getfield 119, 3) := by decide +kernel
theorem dX3_addText_83 : decode cX3_addText 83 = .ok (.iload_n 3, 1) := by decide +kernel
theorem dX3_addText_84 : decode cX3_addText 84 = .ok (.iaload, 1) := by decide +kernel
theorem dX3_addText_85 : decode cX3_addText 85 = .ok (.aload_n 0, 1) := by decide +kernel
theorem dX3_addText_86 : decode cX3_addText 86 = .ok (.getfield 29, 3) := by decide +kernel
theorem dX3_addText_89 : decode cX3_addText 89 = .ok (.getfield 122, 3) := by decide +kernel
theorem dX3_addText_92 : decode cX3_addText 92 = .ok (.iload_n 3, 1) := by decide +kernel
theorem dX3_addText_93 : decode cX3_addText 93 = .ok (.iaload, 1) := by decide +kernel
theorem dX3_addText_94 : decode cX3_addText 94 = .ok (.aload_n 0, 1) := by decide +kernel
theorem dX3_addText_95 : decode cX3_addText 95 = .ok (.getfield 29, 3) := by decide +kernel
theorem dX3_addText_98 : decode cX3_addText 98 = .ok (.getfield 125, 3) := by decide +kernel
theorem dX3_addText_101 : decode cX3_addText 101 = .ok (.iload_n 3, 1) := by decide +kernel
theorem dX3_addText_102 : decode cX3_addText 102 = .ok (.iaload, 1) := by decide +kernel
theorem dX3_addText_103 : decode cX3_addText 103 = .ok (.invokevirtual 55, 3) := by decide +kernel
theorem dX3_addText_106 : decode cX3_addText 106 = .ok (.pop, 1) := by decide +kernel
theorem dX3_addText_107 : decode cX3_addText 107 = .ok (.iinc 3 1, 3) := by decide +kernel
theorem dX3_addText_110 : decode cX3_addText 110 = .ok (.goto (-57), 3) := by decide +kernel
theorem dX3_addText_113 : decode cX3_addText 113 = .ok (.iload_n 2, 1) := by decide +kernel
theorem dX3_addText_114 : decode cX3_addText 114 = .ok (.ireturn, 1) := by decide +kernel
theorem dX3_undo_0 : decode cX3_undo 0 = .ok (.aload_n 0, 1) := by decide +kernel
theorem dX3_undo_1 : decode cX3_undo 1 = .ok (.getfield 22, 3) := by decide +kernel
theorem dX3_undo_4 : decode cX3_undo 4 = .ok (.getfield 128, 3) := by decide +kernel
theorem dX3_undo_7 : decode cX3_undo 7 = .ok (.ifCond .ne 6, 3) := by decide +kernel
theorem dX3_undo_10 : decode cX3_undo 10 = .ok (.bipush (-4), 2) := by decide +kernel
theorem dX3_undo_12 : decode cX3_undo 12 = .ok (.ireturn, 1) := by decide +kernel
theorem dX3_undo_13 : decode cX3_undo 13 = .ok (.aload_n 0, 1) := by decide +kernel
theorem dX3_undo_14 : decode cX3_undo 14 = .ok (.getfield 22, 3) := by decide +kernel
theorem dX3_undo_17 : decode cX3_undo 17 = .ok (.aload_n 0, 1) := by decide +kernel
theorem dX3_undo_18 : decode cX3_undo 18 = .ok (.getfield 10, 3) := by decide +kernel
theorem dX3_undo_21 : decode cX3_undo 21 = .ok (.invokevirtual 131, 3) := by decide +kernel
theorem dX3_undo_24 : decode cX3_undo 24 = .ok (.aload_n 0, 1) := by decide +kernel
theorem dX3_undo_25 : decode cX3_undo 25 = .ok (.getfield 22, 3) := by decide +kernel
theorem dX3_undo_28 : decode cX3_undo 28 = .ok (.getfield 128, 3) := by decide +kernel
theorem dX3_undo_31 : decode cX3_undo 31 = .ok (.ireturn, 1) := by decide +kernel
theorem dX3_keep_0 : decode cX3_keep 0 = .ok (.aload_n 0, 1) := by decide +kernel
theorem dX3_keep_1 : decode cX3_keep 1 = .ok (.getfield 10, 3) := by decide +kernel
theorem dX3_keep_4 : decode cX3_keep 4 = .ok (.aload_n 0, 1) := by decide +kernel
theorem dX3_keep_5 : decode cX3_keep 5 = .ok (.getfield 16, 3) := by decide +kernel
theorem dX3_keep_8 : decode cX3_keep 8 = .ok (.invokestatic 134, 3) := by decide +kernel
theorem dX3_keep_11 : decode cX3_keep 11 = .ok (.aload_n 0, 1) := by decide +kernel
theorem dX3_keep_12 : decode cX3_keep 12 = .ok (.iconst 1, 1) := by decide +kernel
theorem dX3_keep_13 : decode cX3_keep 13 = .ok (.putfield 33, 3) := by decide +kernel
theorem dX3_keep_16 : decode cX3_keep 16 = .ok (.aload_n 0, 1) := by decide +kernel
theorem dX3_keep_17 : decode cX3_keep 17 = .ok (.getfield 10, 3) := by decide +kernel
theorem dX3_keep_20 : decode cX3_keep 20 = .ok (.invokevirtual 85, 3) := by decide +kernel
theorem dX3_keep_23 : decode cX3_keep 23 = .ok (.ireturn, 1) := by decide +kernel
theorem dX3_restore_0 : decode cX3_restore 0 = .ok (.aload_n 0, 1) := by decide +kernel
theorem dX3_restore_1 : decode cX3_restore 1 = .ok (.getfield 33, 3) := by decide +kernel
theorem dX3_restore_4 : decode cX3_restore 4 = .ok (.ifCond .ne 6, 3) := by decide +kernel
theorem dX3_restore_7 : decode cX3_restore 7 = .ok (.bipush (-4), 2) := by decide +kernel
theorem dX3_restore_9 : decode cX3_restore 9 = .ok (.ireturn, 1) := by decide +kernel
theorem dX3_restore_10 : decode cX3_restore 10 = .ok (.aload_n 0, 1) := by decide +kernel
theorem dX3_restore_11 : decode cX3_restore 11 = .ok (.getfield 22, 3) := by decide +kernel
theorem dX3_restore_14 : decode cX3_restore 14 = .ok (.aload_n 0, 1) := by decide +kernel
theorem dX3_restore_15 : decode cX3_restore 15 = .ok (.getfield 10, 3) := by decide +kernel
theorem dX3_restore_18 : decode cX3_restore 18 = .ok (.invokevirtual 51, 3) := by decide +kernel
theorem dX3_restore_21 : decode cX3_restore 21 = .ok (.aload_n 0, 1) := by decide +kernel
theorem dX3_restore_22 : decode cX3_restore 22 = .ok (.getfield 16, 3) := by decide +kernel
theorem dX3_restore_25 : decode cX3_restore 25 = .ok (.aload_n 0, 1) := by decide +kernel
theorem dX3_restore_26 : decode cX3_restore 26 = .ok (.getfield 10, 3) := by decide +kernel
theorem dX3_restore_29 : decode cX3_restore 29 = .ok (.invokestatic 134, 3) := by decide +kernel
theorem dX3_restore_32 : decode cX3_restore 32 = .ok (.aload_n 0, 1) := by decide +kernel
theorem dX3_restore_33 : decode cX3_restore 33 = .ok (.getfield 10, 3) := by decide +kernel
theorem dX3_restore_36 : decode cX3_restore 36 = .ok (.invokevirtual 85, 3) := by decide +kernel
theorem dX3_restore_39 : decode cX3_restore 39 = .ok (.ireturn, 1) := by decide +kernel
theorem dX3_ruleIn_0 : decode cX3_ruleIn 0 = .ok (.aload_n 0, 1) := by decide +kernel
theorem dX3_ruleIn_1 : decode cX3_ruleIn 1 = .ok (.getfield 10, 3) := by decide +kernel
theorem dX3_ruleIn_4 : decode cX3_ruleIn 4 = .ok (.aload_n 0, 1) := by decide +kernel
theorem dX3_ruleIn_5 : decode cX3_ruleIn 5 = .ok (.getfield 10, 3) := by decide +kernel
theorem dX3_ruleIn_8 : decode cX3_ruleIn 8 = .ok (.getfield 138, 3) := by decide +kernel
theorem dX3_ruleIn_11 : decode cX3_ruleIn 11 = .ok (.iload_n 1, 1) := by decide +kernel
theorem dX3_ruleIn_12 : decode cX3_ruleIn 12 = .ok (.invokevirtual 99, 3) := by decide +kernel
theorem dX3_ruleIn_15 : decode cX3_ruleIn 15 = .ok (.ireturn, 1) := by decide +kernel
theorem dX3_maskIn_0 : decode cX3_maskIn 0 = .ok (.aload_n 0, 1) := by decide +kernel
theorem dX3_maskIn_1 : decode cX3_maskIn 1 = .ok (.getfield 10, 3) := by decide +kernel
theorem dX3_maskIn_4 : decode cX3_maskIn 4 = .ok (.aload_n 0, 1) := by decide +kernel
theorem dX3_maskIn_5 : decode cX3_maskIn 5 = .ok (.getfield 10, 3) := by decide +kernel
theorem dX3_maskIn_8 : decode cX3_maskIn 8 = .ok (.getfield 141, 3) := by decide +kernel
theorem dX3_maskIn_11 : decode cX3_maskIn 11 = .ok (.iload_n 1, 1) := by decide +kernel
theorem dX3_maskIn_12 : decode cX3_maskIn 12 = .ok (.invokevirtual 99, 3) := by decide +kernel
theorem dX3_maskIn_15 : decode cX3_maskIn 15 = .ok (.ireturn, 1) := by decide +kernel
theorem dX3_valueIn_0 : decode cX3_valueIn 0 = .ok (.aload_n 0, 1) := by decide +kernel
theorem dX3_valueIn_1 : decode cX3_valueIn 1 = .ok (.getfield 10, 3) := by decide +kernel
theorem dX3_valueIn_4 : decode cX3_valueIn 4 = .ok (.aload_n 0, 1) := by decide +kernel
theorem dX3_valueIn_5 : decode cX3_valueIn 5 = .ok (.getfield 10, 3) := by decide +kernel
theorem dX3_valueIn_8 : decode cX3_valueIn 8 = .ok (.getfield 144, 3) := by decide +kernel
theorem dX3_valueIn_11 : decode cX3_valueIn 11 = .ok (.iload_n 1, 1) := by decide +kernel
theorem dX3_valueIn_12 : decode cX3_valueIn 12 = .ok (.invokevirtual 99, 3) := by decide +kernel
theorem dX3_valueIn_15 : decode cX3_valueIn 15 = .ok (.ireturn, 1) := by decide +kernel
theorem dX3_sortIn_0 : decode cX3_sortIn 0 = .ok (.aload_n 0, 1) := by decide +kernel
theorem dX3_sortIn_1 : decode cX3_sortIn 1 = .ok (.getfield 10, 3) := by decide +kernel
theorem dX3_sortIn_4 : decode cX3_sortIn 4 = .ok (.aload_n 0, 1) := by decide +kernel
theorem dX3_sortIn_5 : decode cX3_sortIn 5 = .ok (.getfield 10, 3) := by decide +kernel
theorem dX3_sortIn_8 : decode cX3_sortIn 8 = .ok (.getfield 141, 3) := by decide +kernel
theorem dX3_sortIn_11 : decode cX3_sortIn 11 = .ok (.iload_n 1, 1) := by decide +kernel
theorem dX3_sortIn_12 : decode cX3_sortIn 12 = .ok (.invokevirtual 99, 3) := by decide +kernel
theorem dX3_sortIn_15 : decode cX3_sortIn 15 = .ok (.istore_n 2, 1) := by decide +kernel
theorem dX3_sortIn_16 : decode cX3_sortIn 16 = .ok (.iload_n 2, 1) := by decide +kernel
theorem dX3_sortIn_17 : decode cX3_sortIn 17 = .ok (.ifCond .ge 7, 3) := by decide +kernel
theorem dX3_sortIn_20 : decode cX3_sortIn 20 = .ok (.iload_n 2, 1) := by decide +kernel
theorem dX3_sortIn_21 : decode cX3_sortIn 21 = .ok (.goto 7, 3) := by decide +kernel
theorem dX3_sortIn_24 : decode cX3_sortIn 24 = .ok (.iload_n 2, 1) := by decide +kernel
theorem dX3_sortIn_25 : decode cX3_sortIn 25 = .ok (.invokestatic 147, 3) := by decide +kernel
theorem dX3_sortIn_28 : decode cX3_sortIn 28 = .ok (.ireturn, 1) := by decide +kernel
theorem dX3_slotOf_0 : decode cX3_slotOf 0 = .ok (.aload_n 0, 1) := by decide +kernel
theorem dX3_slotOf_1 : decode cX3_slotOf 1 = .ok (.getfield 10, 3) := by decide +kernel
theorem dX3_slotOf_4 : decode cX3_slotOf 4 = .ok (.iload_n 1, 1) := by decide +kernel
theorem dX3_slotOf_5 : decode cX3_slotOf 5 = .ok (.iload_n 2, 1) := by decide +kernel
theorem dX3_slotOf_6 : decode cX3_slotOf 6 = .ok (.invokevirtual 150, 3) := by decide +kernel
theorem dX3_slotOf_9 : decode cX3_slotOf 9 = .ok (.istore_n 3, 1) := by decide +kernel
theorem dX3_slotOf_10 : decode cX3_slotOf 10 = .ok (.iload_n 3, 1) := by decide +kernel
theorem dX3_slotOf_11 : decode cX3_slotOf 11 = .ok (.iconst (-1), 1) := by decide +kernel
theorem dX3_slotOf_12 : decode cX3_slotOf 12 = .ok (.if_icmp .ne 7, 3) := by decide +kernel
theorem dX3_slotOf_15 : decode cX3_slotOf 15 = .ok (.iconst (-1), 1) := by decide +kernel
theorem dX3_slotOf_16 : decode cX3_slotOf 16 = .ok (.goto 4, 3) := by decide +kernel
theorem dX3_slotOf_19 : decode cX3_slotOf 19 = .ok (.iload_n 3, 1) := by decide +kernel
theorem dX3_slotOf_20 : decode cX3_slotOf 20 = .ok (.ireturn, 1) := by decide +kernel
theorem dX3_parts_0 : decode cX3_parts 0 = .ok (.aload_n 0, 1) := by decide +kernel
theorem dX3_parts_1 : decode cX3_parts 1 = .ok (.getfield 10, 3) := by decide +kernel
theorem dX3_parts_4 : decode cX3_parts 4 = .ok (.iload_n 1, 1) := by decide +kernel
theorem dX3_parts_5 : decode cX3_parts 5 = .ok (.invokevirtual 70, 3) := by decide +kernel
theorem dX3_parts_8 : decode cX3_parts 8 = .ok (.istore_n 2, 1) := by decide +kernel
theorem dX3_parts_9 : decode cX3_parts 9 = .ok (.iload_n 2, 1) := by decide +kernel
theorem dX3_parts_10 : decode cX3_parts 10 = .ok (.ifCond .ne 7, 3) := by decide +kernel
theorem dX3_parts_13 : decode cX3_parts 13 = .ok (.iconst (-1), 1) := by decide +kernel
theorem dX3_parts_14 : decode cX3_parts 14 = .ok (.goto 4, 3) := by decide +kernel
theorem dX3_parts_17 : decode cX3_parts 17 = .ok (.iload_n 2, 1) := by decide +kernel
theorem dX3_parts_18 : decode cX3_parts 18 = .ok (.ireturn, 1) := by decide +kernel
theorem dX3_rank_0 : decode cX3_rank 0 = .ok (.aload_n 0, 1) := by decide +kernel
theorem dX3_rank_1 : decode cX3_rank 1 = .ok (.getfield 10, 3) := by decide +kernel
theorem dX3_rank_4 : decode cX3_rank 4 = .ok (.aload_n 0, 1) := by decide +kernel
theorem dX3_rank_5 : decode cX3_rank 5 = .ok (.getfield 10, 3) := by decide +kernel
theorem dX3_rank_8 : decode cX3_rank 8 = .ok (.getfield 153, 3) := by decide +kernel
theorem dX3_rank_11 : decode cX3_rank 11 = .ok (.aload_n 0, 1) := by decide +kernel
theorem dX3_rank_12 : decode cX3_rank 12 = .ok (.getfield 10, 3) := by decide +kernel
theorem dX3_rank_15 : decode cX3_rank 15 = .ok (.iload_n 1, 1) := by decide +kernel
theorem dX3_rank_16 : decode cX3_rank 16 = .ok (.iconst 0, 1) := by decide +kernel
theorem dX3_rank_17 : decode cX3_rank 17 = .ok (.invokevirtual 150, 3) := by decide +kernel
theorem dX3_rank_20 : decode cX3_rank 20 = .ok (.invokevirtual 99, 3) := by decide +kernel
theorem dX3_rank_23 : decode cX3_rank 23 = .ok (.ireturn, 1) := by decide +kernel
theorem dX3_action_0 : decode cX3_action 0 = .ok (.aload_n 0, 1) := by decide +kernel
theorem dX3_action_1 : decode cX3_action 1 = .ok (.getfield 10, 3) := by decide +kernel
theorem dX3_action_4 : decode cX3_action 4 = .ok (.aload_n 0, 1) := by decide +kernel
theorem dX3_action_5 : decode cX3_action 5 = .ok (.getfield 10, 3) := by decide +kernel
theorem dX3_action_8 : decode cX3_action 8 = .ok (.getfield 95, 3) := by decide +kernel
theorem dX3_action_11 : decode cX3_action 11 = .ok (.aload_n 0, 1) := by decide +kernel
theorem dX3_action_12 : decode cX3_action 12 = .ok (.getfield 10, 3) := by decide +kernel
theorem dX3_action_15 : decode cX3_action 15 = .ok (.iload_n 1, 1) := by decide +kernel
theorem dX3_action_16 : decode cX3_action 16 = .ok (.iconst 0, 1) := by decide +kernel
theorem dX3_action_17 : decode cX3_action 17 = .ok (.invokevirtual 150, 3) := by decide +kernel
theorem dX3_action_20 : decode cX3_action 20 = .ok (.invokevirtual 99, 3) := by decide +kernel
theorem dX3_action_23 : decode cX3_action 23 = .ok (.ireturn, 1) := by decide +kernel
theorem dX3_hits_0 : decode cX3_hits 0 = .ok (.aload_n 0, 1) := by decide +kernel
theorem dX3_hits_1 : decode cX3_hits 1 = .ok (.getfield 10, 3) := by decide +kernel
theorem dX3_hits_4 : decode cX3_hits 4 = .ok (.aload_n 0, 1) := by decide +kernel
theorem dX3_hits_5 : decode cX3_hits 5 = .ok (.getfield 10, 3) := by decide +kernel
theorem dX3_hits_8 : decode cX3_hits 8 = .ok (.getfield 156, 3) := by decide +kernel
theorem dX3_hits_11 : decode cX3_hits 11 = .ok (.aload_n 0, 1) := by decide +kernel
theorem dX3_hits_12 : decode cX3_hits 12 = .ok (.getfield 10, 3) := by decide +kernel
theorem dX3_hits_15 : decode cX3_hits 15 = .ok (.iload_n 1, 1) := by decide +kernel
theorem dX3_hits_16 : decode cX3_hits 16 = .ok (.iconst 0, 1) := by decide +kernel
theorem dX3_hits_17 : decode cX3_hits 17 = .ok (.invokevirtual 150, 3) := by decide +kernel
theorem dX3_hits_20 : decode cX3_hits 20 = .ok (.invokevirtual 99, 3) := by decide +kernel
theorem dX3_hits_23 : decode cX3_hits 23 = .ok (.ireturn, 1) := by decide +kernel
theorem dX3_find_0 : decode cX3_find 0 = .ok (.iload_n 1, 1) := by decide +kernel
theorem dX3_find_1 : decode cX3_find 1 = .ok (.invokestatic 37, 3) := by decide +kernel
theorem dX3_find_4 : decode cX3_find 4 = .ok (.ifCond .ne 6, 3) := by decide +kernel
theorem dX3_find_7 : decode cX3_find 7 = .ok (.bipush (-2), 2) := by decide +kernel
theorem dX3_find_9 : decode cX3_find 9 = .ok (.ireturn, 1) := by decide +kernel
theorem dX3_find_10 : decode cX3_find 10 = .ok (.aload_n 0, 1) := by decide +kernel
theorem dX3_find_11 : decode cX3_find 11 = .ok (.getfield 10, 3) := by decide +kernel
theorem dX3_find_14 : decode cX3_find 14 = .ok (.iload_n 1, 1) := by decide +kernel
theorem dX3_find_15 : decode cX3_find 15 = .ok (.invokevirtual 88, 3) := by decide +kernel
theorem dX3_find_18 : decode cX3_find 18 = .ok (.istore_n 2, 1) := by decide +kernel
theorem dX3_find_19 : decode cX3_find 19 = .ok (.iload_n 2, 1) := by decide +kernel
theorem dX3_find_20 : decode cX3_find 20 = .ok (.iconst (-1), 1) := by decide +kernel
theorem dX3_find_21 : decode cX3_find 21 = .ok (.if_icmp .ne 8, 3) := by decide +kernel
theorem dX3_find_24 : decode cX3_find 24 = .ok (.bipush (-4), 2) := by decide +kernel
theorem dX3_find_26 : decode cX3_find 26 = .ok (.goto 18, 3) := by decide +kernel
theorem dX3_find_29 : decode cX3_find 29 = .ok (.aload_n 0, 1) := by decide +kernel
theorem dX3_find_30 : decode cX3_find 30 = .ok (.getfield 10, 3) := by decide +kernel
theorem dX3_find_33 : decode cX3_find 33 = .ok (.aload_n 0, 1) := by decide +kernel
theorem dX3_find_34 : decode cX3_find 34 = .ok (.getfield 10, 3) := by decide +kernel
theorem dX3_find_37 : decode cX3_find 37 = .ok (.getfield 138, 3) := by decide +kernel
theorem dX3_find_40 : decode cX3_find 40 = .ok (.iload_n 2, 1) := by decide +kernel
theorem dX3_find_41 : decode cX3_find 41 = .ok (.invokevirtual 99, 3) := by decide +kernel
theorem dX3_find_44 : decode cX3_find 44 = .ok (.ireturn, 1) := by decide +kernel
theorem dX3_power_0 : decode cX3_power 0 = .ok (.iload_n 1, 1) := by decide +kernel
theorem dX3_power_1 : decode cX3_power 1 = .ok (.invokestatic 37, 3) := by decide +kernel
theorem dX3_power_4 : decode cX3_power 4 = .ok (.ifCond .eq 14, 3) := by decide +kernel
theorem dX3_power_7 : decode cX3_power 7 = .ok (.aload_n 0, 1) := by decide +kernel
theorem dX3_power_8 : decode cX3_power 8 = .ok (.getfield 10, 3) := by decide +kernel
theorem dX3_power_11 : decode cX3_power 11 = .ok (.iload_n 1, 1) := by decide +kernel
theorem dX3_power_12 : decode cX3_power 12 = .ok (.invokevirtual 159, 3) := by decide +kernel
theorem dX3_power_15 : decode cX3_power 15 = .ok (.goto 5, 3) := by decide +kernel
theorem dX3_power_18 : decode cX3_power 18 = .ok (.bipush (-2), 2) := by decide +kernel
theorem dX3_power_20 : decode cX3_power 20 = .ok (.ireturn, 1) := by decide +kernel
theorem dX3_filterMask_0 : decode cX3_filterMask 0 = .ok (.iload_n 1, 1) := by decide +kernel
theorem dX3_filterMask_1 : decode cX3_filterMask 1 = .ok (.invokestatic 162, 3) := by decide +kernel
theorem dX3_filterMask_4 : decode cX3_filterMask 4 = .ok (.ifCond .eq 14, 3) := by decide +kernel
theorem dX3_filterMask_7 : decode cX3_filterMask 7 = .ok (.aload_n 0, 1) := by decide +kernel
theorem dX3_filterMask_8 : decode cX3_filterMask 8 = .ok (.getfield 10, 3) := by decide +kernel
theorem dX3_filterMask_11 : decode cX3_filterMask 11 = .ok (.iload_n 1, 1) := by decide +kernel
theorem dX3_filterMask_12 : decode cX3_filterMask 12 = .ok (.invokevirtual 165, 3) := by decide +kernel
theorem dX3_filterMask_15 : decode cX3_filterMask 15 = .ok (.goto 4, 3) := by decide +kernel
theorem dX3_filterMask_18 : decode cX3_filterMask 18 = .ok (.iconst (-1), 1) := by decide +kernel
theorem dX3_filterMask_19 : decode cX3_filterMask 19 = .ok (.ireturn, 1) := by decide +kernel
theorem dX3_filterValue_0 : decode cX3_filterValue 0 = .ok (.iload_n 1, 1) := by decide +kernel
theorem dX3_filterValue_1 : decode cX3_filterValue 1 = .ok (.invokestatic 162, 3) := by decide +kernel
theorem dX3_filterValue_4 : decode cX3_filterValue 4 = .ok (.ifCond .eq 14, 3) := by decide +kernel
theorem dX3_filterValue_7 : decode cX3_filterValue 7 = .ok (.aload_n 0, 1) := by decide +kernel
theorem dX3_filterValue_8 : decode cX3_filterValue 8 = .ok (.getfield 10, 3) := by decide +kernel
theorem dX3_filterValue_11 : decode cX3_filterValue 11 = .ok (.iload_n 1, 1) := by decide +kernel
theorem dX3_filterValue_12 : decode cX3_filterValue 12 = .ok (.invokevirtual 168, 3) := by decide +kernel
theorem dX3_filterValue_15 : decode cX3_filterValue 15 = .ok (.goto 4, 3) := by decide +kernel
theorem dX3_filterValue_18 : decode cX3_filterValue 18 = .ok (.iconst (-1), 1) := by decide +kernel
theorem dX3_filterValue_19 : decode cX3_filterValue 19 = .ok (.ireturn, 1) := by decide +kernel
theorem dX3_hiddenBy_0 : decode cX3_hiddenBy 0 = .ok (.iload_n 1, 1) := by decide +kernel
theorem dX3_hiddenBy_1 : decode cX3_hiddenBy 1 = .ok (.invokestatic 171, 3) := by decide +kernel
theorem dX3_hiddenBy_4 : decode cX3_hiddenBy 4 = .ok (.ifCond .ne 5, 3) := by decide +kernel
theorem dX3_hiddenBy_7 : decode cX3_hiddenBy 7 = .ok (.iconst (-1), 1) := by decide +kernel
theorem dX3_hiddenBy_8 : decode cX3_hiddenBy 8 = .ok (.ireturn, 1) := by decide +kernel
theorem dX3_hiddenBy_9 : decode cX3_hiddenBy 9 = .ok (.aload_n 0, 1) := by decide +kernel
theorem dX3_hiddenBy_10 : decode cX3_hiddenBy 10 = .ok (.getfield 10, 3) := by decide +kernel
theorem dX3_hiddenBy_13 : decode cX3_hiddenBy 13 = .ok (.iload_n 1, 1) := by decide +kernel
theorem dX3_hiddenBy_14 : decode cX3_hiddenBy 14 = .ok (.invokevirtual 174, 3) := by decide +kernel
theorem dX3_hiddenBy_17 : decode cX3_hiddenBy 17 = .ok (.istore_n 2, 1) := by decide +kernel
theorem dX3_hiddenBy_18 : decode cX3_hiddenBy 18 = .ok (.iload_n 2, 1) := by decide +kernel
theorem dX3_hiddenBy_19 : decode cX3_hiddenBy 19 = .ok (.iconst (-1), 1) := by decide +kernel
theorem dX3_hiddenBy_20 : decode cX3_hiddenBy 20 = .ok (.if_icmp .ne 8, 3) := by decide +kernel
theorem dX3_hiddenBy_23 : decode cX3_hiddenBy 23 = .ok (.bipush (-4), 2) := by decide +kernel
theorem dX3_hiddenBy_25 : decode cX3_hiddenBy 25 = .ok (.goto 4, 3) := by decide +kernel
theorem dX3_hiddenBy_28 : decode cX3_hiddenBy 28 = .ok (.iload_n 2, 1) := by decide +kernel
theorem dX3_hiddenBy_29 : decode cX3_hiddenBy 29 = .ok (.ireturn, 1) := by decide +kernel
theorem dX3_keysFor_0 : decode cX3_keysFor 0 = .ok (.iload_n 1, 1) := by decide +kernel
theorem dX3_keysFor_1 : decode cX3_keysFor 1 = .ok (.invokestatic 171, 3) := by decide +kernel
theorem dX3_keysFor_4 : decode cX3_keysFor 4 = .ok (.ifCond .eq 14, 3) := by decide +kernel
theorem dX3_keysFor_7 : decode cX3_keysFor 7 = .ok (.aload_n 0, 1) := by decide +kernel
theorem dX3_keysFor_8 : decode cX3_keysFor 8 = .ok (.getfield 10, 3) := by decide +kernel
theorem dX3_keysFor_11 : decode cX3_keysFor 11 = .ok (.iload_n 1, 1) := by decide +kernel
theorem dX3_keysFor_12 : decode cX3_keysFor 12 = .ok (.invokevirtual 177, 3) := by decide +kernel
theorem dX3_keysFor_15 : decode cX3_keysFor 15 = .ok (.goto 4, 3) := by decide +kernel
theorem dX3_keysFor_18 : decode cX3_keysFor 18 = .ok (.iconst (-1), 1) := by decide +kernel
theorem dX3_keysFor_19 : decode cX3_keysFor 19 = .ok (.ireturn, 1) := by decide +kernel
theorem dX3_wouldMove_0 : decode cX3_wouldMove 0 = .ok (.iload_n 1, 1) := by decide +kernel
theorem dX3_wouldMove_1 : decode cX3_wouldMove 1 = .ok (.invokestatic 41, 3) := by decide +kernel
theorem dX3_wouldMove_4 : decode cX3_wouldMove 4 = .ok (.ifCond .ne 6, 3) := by decide +kernel
theorem dX3_wouldMove_7 : decode cX3_wouldMove 7 = .ok (.bipush (-2), 2) := by decide +kernel
theorem dX3_wouldMove_9 : decode cX3_wouldMove 9 = .ok (.ireturn, 1) := by decide +kernel
theorem dX3_wouldMove_10 : decode cX3_wouldMove 10 = .ok (.aload_n 0, 1) := by decide +kernel
theorem dX3_wouldMove_11 : decode cX3_wouldMove 11 = .ok (.getfield 10, 3) := by decide +kernel
theorem dX3_wouldMove_14 : decode cX3_wouldMove 14 = .ok (.invokevirtual 47, 3) := by decide +kernel
theorem dX3_wouldMove_17 : decode cX3_wouldMove 17 = .ok (.ifCond .ne 8, 3) := by decide +kernel
theorem dX3_wouldMove_20 : decode cX3_wouldMove 20 = .ok (.bipush (-3), 2) := by decide +kernel
theorem dX3_wouldMove_22 : decode cX3_wouldMove 22 = .ok (.goto 11, 3) := by decide +kernel
theorem dX3_wouldMove_25 : decode cX3_wouldMove 25 = .ok (.aload_n 0, 1) := by decide +kernel
theorem dX3_wouldMove_26 : decode cX3_wouldMove 26 = .ok (.getfield 10, 3) := by decide +kernel
theorem dX3_wouldMove_29 : decode cX3_wouldMove 29 = .ok (.iload_n 1, 1) := by decide +kernel
theorem dX3_wouldMove_30 : decode cX3_wouldMove 30 = .ok (.invokevirtual 180, 3) := by decide +kernel
theorem dX3_wouldMove_33 : decode cX3_wouldMove 33 = .ok (.ireturn, 1) := by decide +kernel
theorem dX3_entriesFor_0 : decode cX3_entriesFor 0 = .ok (.iload_n 1, 1) := by decide +kernel
theorem dX3_entriesFor_1 : decode cX3_entriesFor 1 = .ok (.iload_n 2, 1) := by decide +kernel
theorem dX3_entriesFor_2 : decode cX3_entriesFor 2 = .ok (.invokestatic 59, 3) := by decide +kernel
theorem dX3_entriesFor_5 : decode cX3_entriesFor 5 = .ok (.ifCond .eq 11, 3) := by decide +kernel
theorem dX3_entriesFor_8 : decode cX3_entriesFor 8 = .ok (.iload_n 1, 1) := by decide +kernel
theorem dX3_entriesFor_9 : decode cX3_entriesFor 9 = .ok (.iload_n 2, 1) := by decide +kernel
theorem dX3_entriesFor_10 : decode cX3_entriesFor 10 = .ok (.invokestatic 63, 3) := by decide +kernel
theorem dX3_entriesFor_13 : decode cX3_entriesFor 13 = .ok (.goto 5, 3) := by decide +kernel
theorem dX3_entriesFor_16 : decode cX3_entriesFor 16 = .ok (.bipush (-2), 2) := by decide +kernel
theorem dX3_entriesFor_18 : decode cX3_entriesFor 18 = .ok (.ireturn, 1) := by decide +kernel
theorem dX3_total_0 : decode cX3_total 0 = .ok (.iload_n 1, 1) := by decide +kernel
theorem dX3_total_1 : decode cX3_total 1 = .ok (.tableswitch 148 0 10 #[59, 67, 75, 83, 91, 99, 107, 115, 123, 132, 140], 59) := by decide +kernel
theorem dX3_total_60 : decode cX3_total 60 = .ok (.aload_n 0, 1) := by decide +kernel
theorem dX3_total_61 : decode cX3_total 61 = .ok (.getfield 10, 3) := by decide +kernel
theorem dX3_total_64 : decode cX3_total 64 = .ok (.invokevirtual 85, 3) := by decide +kernel
theorem dX3_total_67 : decode cX3_total 67 = .ok (.ireturn, 1) := by decide +kernel
theorem dX3_total_68 : decode cX3_total 68 = .ok (.aload_n 0, 1) := by decide +kernel
theorem dX3_total_69 : decode cX3_total 69 = .ok (.getfield 10, 3) := by decide +kernel
theorem dX3_total_72 : decode cX3_total 72 = .ok (.invokevirtual 183, 3) := by decide +kernel
theorem dX3_total_75 : decode cX3_total 75 = .ok (.ireturn, 1) := by decide +kernel
theorem dX3_total_76 : decode cX3_total 76 = .ok (.aload_n 0, 1) := by decide +kernel
theorem dX3_total_77 : decode cX3_total 77 = .ok (.getfield 10, 3) := by decide +kernel
theorem dX3_total_80 : decode cX3_total 80 = .ok (.getfield 186, 3) := by decide +kernel
theorem dX3_total_83 : decode cX3_total 83 = .ok (.ireturn, 1) := by decide +kernel
theorem dX3_total_84 : decode cX3_total 84 = .ok (.aload_n 0, 1) := by decide +kernel
theorem dX3_total_85 : decode cX3_total 85 = .ok (.getfield 10, 3) := by decide +kernel
theorem dX3_total_88 : decode cX3_total 88 = .ok (.getfield 78, 3) := by decide +kernel
theorem dX3_total_91 : decode cX3_total 91 = .ok (.ireturn, 1) := by decide +kernel
theorem dX3_total_92 : decode cX3_total 92 = .ok (.aload_n 0, 1) := by decide +kernel
theorem dX3_total_93 : decode cX3_total 93 = .ok (.getfield 10, 3) := by decide +kernel
theorem dX3_total_96 : decode cX3_total 96 = .ok (.getfield 189, 3) := by decide +kernel
theorem dX3_total_99 : decode cX3_total 99 = .ok (.ireturn, 1) := by decide +kernel
theorem dX3_total_100 : decode cX3_total 100 = .ok (.aload_n 0, 1) := by decide +kernel
theorem dX3_total_101 : decode cX3_total 101 = .ok (.getfield 10, 3) := by decide +kernel
theorem dX3_total_104 : decode cX3_total 104 = .ok (.getfield 192, 3) := by decide +kernel
theorem dX3_total_107 : decode cX3_total 107 = .ok (.ireturn, 1) := by decide +kernel
theorem dX3_total_108 : decode cX3_total 108 = .ok (.aload_n 0, 1) := by decide +kernel
theorem dX3_total_109 : decode cX3_total 109 = .ok (.getfield 10, 3) := by decide +kernel
theorem dX3_total_112 : decode cX3_total 112 = .ok (.getfield 195, 3) := by decide +kernel
theorem dX3_total_115 : decode cX3_total 115 = .ok (.ireturn, 1) := by decide +kernel
theorem dX3_total_116 : decode cX3_total 116 = .ok (.aload_n 0, 1) := by decide +kernel
theorem dX3_total_117 : decode cX3_total 117 = .ok (.getfield 10, 3) := by decide +kernel
theorem dX3_total_120 : decode cX3_total 120 = .ok (.invokevirtual 198, 3) := by decide +kernel
theorem dX3_total_123 : decode cX3_total 123 = .ok (.ireturn, 1) := by decide +kernel
theorem dX3_total_124 : decode cX3_total 124 = .ok (.aload_n 0, 1) := by decide +kernel
theorem dX3_total_125 : decode cX3_total 125 = .ok (.getfield 10, 3) := by decide +kernel
theorem dX3_total_128 : decode cX3_total 128 = .ok (.iconst (-1), 1) := by decide +kernel
theorem dX3_total_129 : decode cX3_total 129 = .ok (.invokevirtual 177, 3) := by decide +kernel
theorem dX3_total_132 : decode cX3_total 132 = .ok (.ireturn, 1) := by decide +kernel
theorem dX3_total_133 : decode cX3_total 133 = .ok (.aload_n 0, 1) := by decide +kernel
theorem dX3_total_134 : decode cX3_total 134 = .ok (.getfield 22, 3) := by decide +kernel
theorem dX3_total_137 : decode cX3_total 137 = .ok (.getfield 128, 3) := by decide +kernel
theorem dX3_total_140 : decode cX3_total 140 = .ok (.ireturn, 1) := by decide +kernel
theorem dX3_total_141 : decode cX3_total 141 = .ok (.aload_n 0, 1) := by decide +kernel
theorem dX3_total_142 : decode cX3_total 142 = .ok (.getfield 29, 3) := by decide +kernel
theorem dX3_total_145 : decode cX3_total 145 = .ok (.getfield 107, 3) := by decide +kernel
theorem dX3_total_148 : decode cX3_total 148 = .ok (.ireturn, 1) := by decide +kernel
theorem dX3_total_149 : decode cX3_total 149 = .ok (.bipush (-2), 2) := by decide +kernel
theorem dX3_total_151 : decode cX3_total 151 = .ok (.ireturn, 1) := by decide +kernel
theorem dX3_rearrange_0 : decode cX3_rearrange 0 = .ok (.aload_n 0, 1) := by decide +kernel
theorem dX3_rearrange_1 : decode cX3_rearrange 1 = .ok (.getfield 10, 3) := by decide +kernel
theorem dX3_rearrange_4 : decode cX3_rearrange 4 = .ok (.iload_n 1, 1) := by decide +kernel
theorem dX3_rearrange_5 : decode cX3_rearrange 5 = .ok (.invokevirtual 201, 3) := by decide +kernel
theorem dX3_rearrange_8 : decode cX3_rearrange 8 = .ok (.istore_n 2, 1) := by decide +kernel
theorem dX3_rearrange_9 : decode cX3_rearrange 9 = .ok (.iload_n 2, 1) := by decide +kernel
theorem dX3_rearrange_10 : decode cX3_rearrange 10 = .ok (.ifCond .ne 6, 3) := by decide +kernel
theorem dX3_rearrange_13 : decode cX3_rearrange 13 = .ok (.bipush (-4), 2) := by decide +kernel
theorem dX3_rearrange_15 : decode cX3_rearrange 15 = .ok (.ireturn, 1) := by decide +kernel
theorem dX3_rearrange_16 : decode cX3_rearrange 16 = .ok (.aload_n 0, 1) := by decide +kernel
theorem dX3_rearrange_17 : decode cX3_rearrange 17 = .ok (.getfield 22, 3) := by decide +kernel
theorem dX3_rearrange_20 : decode cX3_rearrange 20 = .ok (.aload_n 0, 1) := by decide +kernel
theorem dX3_rearrange_21 : decode cX3_rearrange 21 = .ok (.getfield 10, 3) := by decide +kernel
theorem dX3_rearrange_24 : decode cX3_rearrange 24 = .ok (.invokevirtual 51, 3) := by decide +kernel
theorem dX3_rearrange_27 : decode cX3_rearrange 27 = .ok (.aload_n 0, 1) := by decide +kernel
theorem dX3_rearrange_28 : decode cX3_rearrange 28 = .ok (.getfield 10, 3) := by decide +kernel
theorem dX3_rearrange_31 : decode cX3_rearrange 31 = .ok (.iload_n 1, 1) := by decide +kernel
theorem dX3_rearrange_32 : decode cX3_rearrange 32 = .ok (.invokevirtual 204, 3) := by decide +kernel
theorem dX3_rearrange_35 : decode cX3_rearrange 35 = .ok (.aload_n 0, 1) := by decide +kernel
theorem dX3_rearrange_36 : decode cX3_rearrange 36 = .ok (.getfield 10, 3) := by decide +kernel
theorem dX3_rearrange_39 : decode cX3_rearrange 39 = .ok (.dup, 1) := by decide +kernel
theorem dX3_rearrange_40 : decode cX3_rearrange 40 = .ok (.getfield 189, 3) := by decide +kernel
theorem dX3_rearrange_43 : decode cX3_rearrange 43 = .ok (.iload_n 2, 1) := by decide +kernel
theorem dX3_rearrange_44 : decode cX3_rearrange 44 = .ok (.iadd, 1) := by decide +kernel
theorem dX3_rearrange_45 : decode cX3_rearrange 45 = .ok (.putfield 189, 3) := by decide +kernel
theorem dX3_rearrange_48 : decode cX3_rearrange 48 = .ok (.iload_n 2, 1) := by decide +kernel
theorem dX3_rearrange_49 : decode cX3_rearrange 49 = .ok (.ireturn, 1) := by decide +kernel
theorem dX3_isSlot_0 : decode cX3_isSlot 0 = .ok (.iload_n 0, 1) := by decide +kernel
theorem dX3_isSlot_1 : decode cX3_isSlot 1 = .ok (.ifCond .lt 13, 3) := by decide +kernel
theorem dX3_isSlot_4 : decode cX3_isSlot 4 = .ok (.iload_n 0, 1) := by decide +kernel
theorem dX3_isSlot_5 : decode cX3_isSlot 5 = .ok (.bipush 32, 2) := by decide +kernel
theorem dX3_isSlot_7 : decode cX3_isSlot 7 = .ok (.if_icmp .ge 7, 3) := by decide +kernel
theorem dX3_isSlot_10 : decode cX3_isSlot 10 = .ok (.iconst 1, 1) := by decide +kernel
theorem dX3_isSlot_11 : decode cX3_isSlot 11 = .ok (.goto 4, 3) := by decide +kernel
theorem dX3_isSlot_14 : decode cX3_isSlot 14 = .ok (.iconst 0, 1) := by decide +kernel
theorem dX3_isSlot_15 : decode cX3_isSlot 15 = .ok (.ireturn, 1) := by decide +kernel
theorem dX3_isBank_0 : decode cX3_isBank 0 = .ok (.iload_n 0, 1) := by decide +kernel
theorem dX3_isBank_1 : decode cX3_isBank 1 = .ok (.ifCond .lt 12, 3) := by decide +kernel
theorem dX3_isBank_4 : decode cX3_isBank 4 = .ok (.iload_n 0, 1) := by decide +kernel
theorem dX3_isBank_5 : decode cX3_isBank 5 = .ok (.iconst 4, 1) := by decide +kernel
theorem dX3_isBank_6 : decode cX3_isBank 6 = .ok (.if_icmp .ge 7, 3) := by decide +kernel
theorem dX3_isBank_9 : decode cX3_isBank 9 = .ok (.iconst 1, 1) := by decide +kernel
theorem dX3_isBank_10 : decode cX3_isBank 10 = .ok (.goto 4, 3) := by decide +kernel
theorem dX3_isBank_13 : decode cX3_isBank 13 = .ok (.iconst 0, 1) := by decide +kernel
theorem dX3_isBank_14 : decode cX3_isBank 14 = .ok (.ireturn, 1) := by decide +kernel
theorem dX3_isKey_0 : decode cX3_isKey 0 = .ok (.iload_n 0, 1) := by decide +kernel
theorem dX3_isKey_1 : decode cX3_isKey 1 = .ok (.ifCond .lt 14, 3) := by decide +kernel
theorem dX3_isKey_4 : decode cX3_isKey 4 = .ok (.iload_n 0, 1) := by decide +kernel
theorem dX3_isKey_5 : decode cX3_isKey 5 = .ok (.sipush 256, 3) := by decide +kernel
theorem dX3_isKey_8 : decode cX3_isKey 8 = .ok (.if_icmp .ge 7, 3) := by decide +kernel
theorem dX3_isKey_11 : decode cX3_isKey 11 = .ok (.iconst 1, 1) := by decide +kernel
theorem dX3_isKey_12 : decode cX3_isKey 12 = .ok (.goto 4, 3) := by decide +kernel
theorem dX3_isKey_15 : decode cX3_isKey 15 = .ok (.iconst 0, 1) := by decide +kernel
theorem dX3_isKey_16 : decode cX3_isKey 16 = .ok (.ireturn, 1) := by decide +kernel
theorem dX3_isRange_0 : decode cX3_isRange 0 = .ok (.iload_n 0, 1) := by decide +kernel
theorem dX3_isRange_1 : decode cX3_isRange 1 = .ok (.invokestatic 37, 3) := by decide +kernel
theorem dX3_isRange_4 : decode cX3_isRange 4 = .ok (.ifCond .eq 19, 3) := by decide +kernel
theorem dX3_isRange_7 : decode cX3_isRange 7 = .ok (.iload_n 1, 1) := by decide +kernel
theorem dX3_isRange_8 : decode cX3_isRange 8 = .ok (.invokestatic 37, 3) := by decide +kernel
theorem dX3_isRange_11 : decode cX3_isRange 11 = .ok (.ifCond .eq 12, 3) := by decide +kernel
theorem dX3_isRange_14 : decode cX3_isRange 14 = .ok (.iload_n 0, 1) := by decide +kernel
theorem dX3_isRange_15 : decode cX3_isRange 15 = .ok (.iload_n 1, 1) := by decide +kernel
theorem dX3_isRange_16 : decode cX3_isRange 16 = .ok (.if_icmp .gt 7, 3) := by decide +kernel
theorem dX3_isRange_19 : decode cX3_isRange 19 = .ok (.iconst 1, 1) := by decide +kernel
theorem dX3_isRange_20 : decode cX3_isRange 20 = .ok (.goto 4, 3) := by decide +kernel
theorem dX3_isRange_23 : decode cX3_isRange 23 = .ok (.iconst 0, 1) := by decide +kernel
theorem dX3_isRange_24 : decode cX3_isRange 24 = .ok (.ireturn, 1) := by decide +kernel
theorem dX3_isRank_0 : decode cX3_isRank 0 = .ok (.iload_n 0, 1) := by decide +kernel
theorem dX3_isRank_1 : decode cX3_isRank 1 = .ok (.ifCond .lt 13, 3) := by decide +kernel
theorem dX3_isRank_4 : decode cX3_isRank 4 = .ok (.iload_n 0, 1) := by decide +kernel
theorem dX3_isRank_5 : decode cX3_isRank 5 = .ok (.bipush 100, 2) := by decide +kernel
theorem dX3_isRank_7 : decode cX3_isRank 7 = .ok (.if_icmp .ge 7, 3) := by decide +kernel
theorem dX3_isRank_10 : decode cX3_isRank 10 = .ok (.iconst 1, 1) := by decide +kernel
theorem dX3_isRank_11 : decode cX3_isRank 11 = .ok (.goto 4, 3) := by decide +kernel
theorem dX3_isRank_14 : decode cX3_isRank 14 = .ok (.iconst 0, 1) := by decide +kernel
theorem dX3_isRank_15 : decode cX3_isRank 15 = .ok (.ireturn, 1) := by decide +kernel
theorem dX3_isAction_0 : decode cX3_isAction 0 = .ok (.iload_n 0, 1) := by decide +kernel
theorem dX3_isAction_1 : decode cX3_isAction 1 = .ok (.ifCond .lt 13, 3) := by decide +kernel
theorem dX3_isAction_4 : decode cX3_isAction 4 = .ok (.iload_n 0, 1) := by decide +kernel
theorem dX3_isAction_5 : decode cX3_isAction 5 = .ok (.bipush 10, 2) := by decide +kernel
theorem dX3_isAction_7 : decode cX3_isAction 7 = .ok (.if_icmp .ge 7, 3) := by decide +kernel
theorem dX3_isAction_10 : decode cX3_isAction 10 = .ok (.iconst 1, 1) := by decide +kernel
theorem dX3_isAction_11 : decode cX3_isAction 11 = .ok (.goto 4, 3) := by decide +kernel
theorem dX3_isAction_14 : decode cX3_isAction 14 = .ok (.iconst 0, 1) := by decide +kernel
theorem dX3_isAction_15 : decode cX3_isAction 15 = .ok (.ireturn, 1) := by decide +kernel
theorem dX3_sortOfMask_0 : decode cX3_sortOfMask 0 = .ok (.iload_n 0, 1) := by decide +kernel
theorem dX3_sortOfMask_1 : decode cX3_sortOfMask 1 = .ok (.sipush 255, 3) := by decide +kernel
theorem dX3_sortOfMask_4 : decode cX3_sortOfMask 4 = .ok (.if_icmp .ne 5, 3) := by decide +kernel
theorem dX3_sortOfMask_7 : decode cX3_sortOfMask 7 = .ok (.iconst 0, 1) := by decide +kernel
theorem dX3_sortOfMask_8 : decode cX3_sortOfMask 8 = .ok (.ireturn, 1) := by decide +kernel
theorem dX3_sortOfMask_9 : decode cX3_sortOfMask 9 = .ok (.sipush 255, 3) := by decide +kernel
theorem dX3_sortOfMask_12 : decode cX3_sortOfMask 12 = .ok (.iload_n 0, 1) := by decide +kernel
theorem dX3_sortOfMask_13 : decode cX3_sortOfMask 13 = .ok (.isub, 1) := by decide +kernel
theorem dX3_sortOfMask_14 : decode cX3_sortOfMask 14 = .ok (.istore_n 1, 1) := by decide +kernel
theorem dX3_sortOfMask_15 : decode cX3_sortOfMask 15 = .ok (.iload_n 1, 1) := by decide +kernel
theorem dX3_sortOfMask_16 : decode cX3_sortOfMask 16 = .ok (.iload_n 1, 1) := by decide +kernel
theorem dX3_sortOfMask_17 : decode cX3_sortOfMask 17 = .ok (.iconst 1, 1) := by decide +kernel
theorem dX3_sortOfMask_18 : decode cX3_sortOfMask 18 = .ok (.iadd, 1) := by decide +kernel
theorem dX3_sortOfMask_19 : decode cX3_sortOfMask 19 = .ok (.iand, 1) := by decide +kernel
theorem dX3_sortOfMask_20 : decode cX3_sortOfMask 20 = .ok (.ifCond .ne 7, 3) := by decide +kernel
theorem dX3_sortOfMask_23 : decode cX3_sortOfMask 23 = .ok (.iconst 1, 1) := by decide +kernel
theorem dX3_sortOfMask_24 : decode cX3_sortOfMask 24 = .ok (.goto 4, 3) := by decide +kernel
theorem dX3_sortOfMask_27 : decode cX3_sortOfMask 27 = .ok (.iconst 2, 1) := by decide +kernel
theorem dX3_sortOfMask_28 : decode cX3_sortOfMask 28 = .ok (.ireturn, 1) := by decide +kernel
theorem dX3_blocksOf_0 : decode cX3_blocksOf 0 = .ok (.iload_n 0, 1) := by decide +kernel
theorem dX3_blocksOf_1 : decode cX3_blocksOf 1 = .ok (.istore_n 2, 1) := by decide +kernel
theorem dX3_blocksOf_2 : decode cX3_blocksOf 2 = .ok (.iconst 0, 1) := by decide +kernel
theorem dX3_blocksOf_3 : decode cX3_blocksOf 3 = .ok (.istore_n 3, 1) := by decide +kernel
theorem dX3_blocksOf_4 : decode cX3_blocksOf 4 = .ok (.iload_n 3, 1) := by decide +kernel
theorem dX3_blocksOf_5 : decode cX3_blocksOf 5 = .ok (.bipush 14, 2) := by decide +kernel
theorem dX3_blocksOf_7 : decode cX3_blocksOf 7 = .ok (.if_icmp .ge 24, 3) := by decide +kernel
theorem dX3_blocksOf_10 : decode cX3_blocksOf 10 = .ok (.iload_n 2, 1) := by decide +kernel
theorem dX3_blocksOf_11 : decode cX3_blocksOf 11 = .ok (.iload_n 1, 1) := by decide +kernel
theorem dX3_blocksOf_12 : decode cX3_blocksOf 12 = .ok (.if_icmp .le 5, 3) := by decide +kernel
theorem dX3_blocksOf_15 : decode cX3_blocksOf 15 = .ok (.iload_n 3, 1) := by decide +kernel
theorem dX3_blocksOf_16 : decode cX3_blocksOf 16 = .ok (.ireturn, 1) := by decide +kernel
theorem dX3_blocksOf_17 : decode cX3_blocksOf 17 = .ok (.iload_n 2, 1) := by decide +kernel
theorem dX3_blocksOf_18 : decode cX3_blocksOf 18 = .ok (.iload_n 2, 1) := by decide +kernel
theorem dX3_blocksOf_19 : decode cX3_blocksOf 19 = .ok (.iload_n 1, 1) := by decide +kernel
theorem dX3_blocksOf_20 : decode cX3_blocksOf 20 = .ok (.invokestatic 207, 3) := by decide +kernel
theorem dX3_blocksOf_23 : decode cX3_blocksOf 23 = .ok (.iadd, 1) := by decide +kernel
theorem dX3_blocksOf_24 : decode cX3_blocksOf 24 = .ok (.istore_n 2, 1) := by decide +kernel
theorem dX3_blocksOf_25 : decode cX3_blocksOf 25 = .ok (.iinc 3 1, 3) := by decide +kernel
theorem dX3_blocksOf_28 : decode cX3_blocksOf 28 = .ok (.goto (-24), 3) := by decide +kernel
theorem dX3_blocksOf_31 : decode cX3_blocksOf 31 = .ok (.bipush 14, 2) := by decide +kernel
theorem dX3_blocksOf_33 : decode cX3_blocksOf 33 = .ok (.ireturn, 1) := by decide +kernel
theorem dX3_blockSize_0 : decode cX3_blockSize 0 = .ok (.iconst 1, 1) := by decide +kernel
theorem dX3_blockSize_1 : decode cX3_blockSize 1 = .ok (.istore_n 2, 1) := by decide +kernel
theorem dX3_blockSize_2 : decode cX3_blockSize 2 = .ok (.iconst 2, 1) := by decide +kernel
theorem dX3_blockSize_3 : decode cX3_blockSize 3 = .ok (.istore_n 3, 1) := by decide +kernel
theorem dX3_blockSize_4 : decode cX3_blockSize 4 = .ok (.iload_n 3, 1) := by decide +kernel
theorem dX3_blockSize_5 : decode cX3_blockSize 5 = .ok (.sipush 256, 3) := by decide +kernel
theorem dX3_blockSize_8 : decode cX3_blockSize 8 = .ok (.if_icmp .gt 31, 3) := by decide +kernel
theorem dX3_blockSize_11 : decode cX3_blockSize 11 = .ok (.iload_n 0, 1) := by decide +kernel
theorem dX3_blockSize_12 : decode cX3_blockSize 12 = .ok (.iload_n 3, 1) := by decide +kernel
theorem dX3_blockSize_13 : decode cX3_blockSize 13 = .ok (.iconst 1, 1) := by decide +kernel
theorem dX3_blockSize_14 : decode cX3_blockSize 14 = .ok (.isub, 1) := by decide +kernel
theorem dX3_blockSize_15 : decode cX3_blockSize 15 = .ok (.iand, 1) := by decide +kernel
theorem dX3_blockSize_16 : decode cX3_blockSize 16 = .ok (.ifCond .ne 12, 3) := by decide +kernel
theorem dX3_blockSize_19 : decode cX3_blockSize 19 = .ok (.iload_n 0, 1) := by decide +kernel
theorem dX3_blockSize_20 : decode cX3_blockSize 20 = .ok (.iload_n 3, 1) := by decide +kernel
theorem dX3_blockSize_21 : decode cX3_blockSize 21 = .ok (.iadd, 1) := by decide +kernel
theorem dX3_blockSize_22 : decode cX3_blockSize 22 = .ok (.iconst 1, 1) := by decide +kernel
theorem dX3_blockSize_23 : decode cX3_blockSize 23 = .ok (.isub, 1) := by decide +kernel
theorem dX3_blockSize_24 : decode cX3_blockSize 24 = .ok (.iload_n 1, 1) := by decide +kernel
theorem dX3_blockSize_25 : decode cX3_blockSize 25 = .ok (.if_icmp .le 5, 3) := by decide +kernel
theorem dX3_blockSize_28 : decode cX3_blockSize 28 = .ok (.iload_n 2, 1) := by decide +kernel
theorem dX3_blockSize_29 : decode cX3_blockSize 29 = .ok (.ireturn, 1) := by decide +kernel
theorem dX3_blockSize_30 : decode cX3_blockSize 30 = .ok (.iload_n 3, 1) := by decide +kernel
theorem dX3_blockSize_31 : decode cX3_blockSize 31 = .ok (.istore_n 2, 1) := by decide +kernel
theorem dX3_blockSize_32 : decode cX3_blockSize 32 = .ok (.iload_n 3, 1) := by decide +kernel
theorem dX3_blockSize_33 : decode cX3_blockSize 33 = .ok (.iconst 2, 1) := by decide +kernel
theorem dX3_blockSize_34 : decode cX3_blockSize 34 = .ok (.imul, 1) := by decide +kernel
theorem dX3_blockSize_35 : decode cX3_blockSize 35 = .ok (.istore_n 3, 1) := by decide +kernel
theorem dX3_blockSize_36 : decode cX3_blockSize 36 = .ok (.goto (-32), 3) := by decide +kernel
theorem dX3_blockSize_39 : decode cX3_blockSize 39 = .ok (.iload_n 2, 1) := by decide +kernel
theorem dX3_blockSize_40 : decode cX3_blockSize 40 = .ok (.ireturn, 1) := by decide +kernel
theorem dX3_copyState_0 : decode cX3_copyState 0 = .ok (.aload_n 0, 1) := by decide +kernel
theorem dX3_copyState_1 : decode cX3_copyState 1 = .ok (.ifnull 12, 3) := by decide +kernel
theorem dX3_copyState_4 : decode cX3_copyState 4 = .ok (.aload_n 1, 1) := by decide +kernel
theorem dX3_copyState_5 : decode cX3_copyState 5 = .ok (.ifnull 8, 3) := by decide +kernel
theorem dX3_copyState_8 : decode cX3_copyState 8 = .ok (.aload_n 1, 1) := by decide +kernel
theorem dX3_copyState_9 : decode cX3_copyState 9 = .ok (.aload_n 0, 1) := by decide +kernel
theorem dX3_copyState_10 : decode cX3_copyState 10 = .ok (.invokevirtual 210, 3) := by decide +kernel
theorem dX3_copyState_13 : decode cX3_copyState 13 = .ok (.return_, 1) := by decide +kernel
theorem dJ6_bitCount_0f7a4_0 : decode cJ6_bitCount_0f7a4 0 = .ok (.iload_n 0, 1) := by decide +kernel
theorem dJ6_bitCount_0f7a4_1 : decode cJ6_bitCount_0f7a4 1 = .ok (.iload_n 0, 1) := by decide +kernel
theorem dJ6_bitCount_0f7a4_2 : decode cJ6_bitCount_0f7a4 2 = .ok (.iconst 1, 1) := by decide +kernel
theorem dJ6_bitCount_0f7a4_3 : decode cJ6_bitCount_0f7a4 3 = .ok (.iushr, 1) := by decide +kernel
theorem dJ6_bitCount_0f7a4_4 : decode cJ6_bitCount_0f7a4 4 = .ok (.ldc_w 265, 3) := by decide +kernel
theorem dJ6_bitCount_0f7a4_7 : decode cJ6_bitCount_0f7a4 7 = .ok (.iand, 1) := by decide +kernel
theorem dJ6_bitCount_0f7a4_8 : decode cJ6_bitCount_0f7a4 8 = .ok (.isub, 1) := by decide +kernel
theorem dJ6_bitCount_0f7a4_9 : decode cJ6_bitCount_0f7a4 9 = .ok (.istore_n 0, 1) := by decide +kernel
theorem dJ6_bitCount_0f7a4_10 : decode cJ6_bitCount_0f7a4 10 = .ok (.iload_n 0, 1) := by decide +kernel
theorem dJ6_bitCount_0f7a4_11 : decode cJ6_bitCount_0f7a4 11 = .ok (.ldc_w 266, 3) := by decide +kernel
theorem dJ6_bitCount_0f7a4_14 : decode cJ6_bitCount_0f7a4 14 = .ok (.iand, 1) := by decide +kernel
theorem dJ6_bitCount_0f7a4_15 : decode cJ6_bitCount_0f7a4 15 = .ok (.iload_n 0, 1) := by decide +kernel
theorem dJ6_bitCount_0f7a4_16 : decode cJ6_bitCount_0f7a4 16 = .ok (.iconst 2, 1) := by decide +kernel
theorem dJ6_bitCount_0f7a4_17 : decode cJ6_bitCount_0f7a4 17 = .ok (.iushr, 1) := by decide +kernel
theorem dJ6_bitCount_0f7a4_18 : decode cJ6_bitCount_0f7a4 18 = .ok (.ldc_w 266, 3) := by decide +kernel
theorem dJ6_bitCount_0f7a4_21 : decode cJ6_bitCount_0f7a4 21 = .ok (.iand, 1) := by decide +kernel
theorem dJ6_bitCount_0f7a4_22 : decode cJ6_bitCount_0f7a4 22 = .ok (.iadd, 1) := by decide +kernel
theorem dJ6_bitCount_0f7a4_23 : decode cJ6_bitCount_0f7a4 23 = .ok (.istore_n 0, 1) := by decide +kernel
theorem dJ6_bitCount_0f7a4_24 : decode cJ6_bitCount_0f7a4 24 = .ok (.iload_n 0, 1) := by decide +kernel
theorem dJ6_bitCount_0f7a4_25 : decode cJ6_bitCount_0f7a4 25 = .ok (.iload_n 0, 1) := by decide +kernel
theorem dJ6_bitCount_0f7a4_26 : decode cJ6_bitCount_0f7a4 26 = .ok (.iconst 4, 1) := by decide +kernel
theorem dJ6_bitCount_0f7a4_27 : decode cJ6_bitCount_0f7a4 27 = .ok (.iushr, 1) := by decide +kernel
theorem dJ6_bitCount_0f7a4_28 : decode cJ6_bitCount_0f7a4 28 = .ok (.iadd, 1) := by decide +kernel
theorem dJ6_bitCount_0f7a4_29 : decode cJ6_bitCount_0f7a4 29 = .ok (.ldc_w 267, 3) := by decide +kernel
theorem dJ6_bitCount_0f7a4_32 : decode cJ6_bitCount_0f7a4 32 = .ok (.iand, 1) := by decide +kernel
theorem dJ6_bitCount_0f7a4_33 : decode cJ6_bitCount_0f7a4 33 = .ok (.istore_n 0, 1) := by decide +kernel
theorem dJ6_bitCount_0f7a4_34 : decode cJ6_bitCount_0f7a4 34 = .ok (.iload_n 0, 1) := by decide +kernel
theorem dJ6_bitCount_0f7a4_35 : decode cJ6_bitCount_0f7a4 35 = .ok (.iload_n 0, 1) := by decide +kernel
theorem dJ6_bitCount_0f7a4_36 : decode cJ6_bitCount_0f7a4 36 = .ok (.bipush 8, 2) := by decide +kernel
theorem dJ6_bitCount_0f7a4_38 : decode cJ6_bitCount_0f7a4 38 = .ok (.iushr, 1) := by decide +kernel
theorem dJ6_bitCount_0f7a4_39 : decode cJ6_bitCount_0f7a4 39 = .ok (.iadd, 1) := by decide +kernel
theorem dJ6_bitCount_0f7a4_40 : decode cJ6_bitCount_0f7a4 40 = .ok (.istore_n 0, 1) := by decide +kernel
theorem dJ6_bitCount_0f7a4_41 : decode cJ6_bitCount_0f7a4 41 = .ok (.iload_n 0, 1) := by decide +kernel
theorem dJ6_bitCount_0f7a4_42 : decode cJ6_bitCount_0f7a4 42 = .ok (.iload_n 0, 1) := by decide +kernel
theorem dJ6_bitCount_0f7a4_43 : decode cJ6_bitCount_0f7a4 43 = .ok (.bipush 16, 2) := by decide +kernel
theorem dJ6_bitCount_0f7a4_45 : decode cJ6_bitCount_0f7a4 45 = .ok (.iushr, 1) := by decide +kernel
theorem dJ6_bitCount_0f7a4_46 : decode cJ6_bitCount_0f7a4 46 = .ok (.iadd, 1) := by decide +kernel
theorem dJ6_bitCount_0f7a4_47 : decode cJ6_bitCount_0f7a4 47 = .ok (.istore_n 0, 1) := by decide +kernel
theorem dJ6_bitCount_0f7a4_48 : decode cJ6_bitCount_0f7a4 48 = .ok (.iload_n 0, 1) := by decide +kernel
theorem dJ6_bitCount_0f7a4_49 : decode cJ6_bitCount_0f7a4 49 = .ok (.bipush 63, 2) := by decide +kernel
theorem dJ6_bitCount_0f7a4_51 : decode cJ6_bitCount_0f7a4 51 = .ok (.iand, 1) := by decide +kernel
theorem dJ6_bitCount_0f7a4_52 : decode cJ6_bitCount_0f7a4 52 = .ok (.ireturn, 1) := by decide +kernel
theorem dJ9_floorMod_7cf53_0 : decode cJ9_floorMod_7cf53 0 = .ok (.iload_n 0, 1) := by decide +kernel
theorem dJ9_floorMod_7cf53_1 : decode cJ9_floorMod_7cf53 1 = .ok (.iload_n 1, 1) := by decide +kernel
theorem dJ9_floorMod_7cf53_2 : decode cJ9_floorMod_7cf53 2 = .ok (.irem, 1) := by decide +kernel
theorem dJ9_floorMod_7cf53_3 : decode cJ9_floorMod_7cf53 3 = .ok (.istore_n 2, 1) := by decide +kernel
theorem dJ9_floorMod_7cf53_4 : decode cJ9_floorMod_7cf53 4 = .ok (.iload_n 0, 1) := by decide +kernel
theorem dJ9_floorMod_7cf53_5 : decode cJ9_floorMod_7cf53 5 = .ok (.iload_n 1, 1) := by decide +kernel
theorem dJ9_floorMod_7cf53_6 : decode cJ9_floorMod_7cf53 6 = .ok (.ixor, 1) := by decide +kernel
theorem dJ9_floorMod_7cf53_7 : decode cJ9_floorMod_7cf53 7 = .ok (.ifCond .ge 11, 3) := by decide +kernel
theorem dJ9_floorMod_7cf53_10 : decode cJ9_floorMod_7cf53 10 = .ok (.iload_n 2, 1) := by decide +kernel
theorem dJ9_floorMod_7cf53_11 : decode cJ9_floorMod_7cf53 11 = .ok (.ifCond .eq 7, 3) := by decide +kernel
theorem dJ9_floorMod_7cf53_14 : decode cJ9_floorMod_7cf53 14 = .ok (.iload_n 2, 1) := by decide +kernel
theorem dJ9_floorMod_7cf53_15 : decode cJ9_floorMod_7cf53 15 = .ok (.iload_n 1, 1) := by decide +kernel
theorem dJ9_floorMod_7cf53_16 : decode cJ9_floorMod_7cf53 16 = .ok (.iadd, 1) := by decide +kernel
theorem dJ9_floorMod_7cf53_17 : decode cJ9_floorMod_7cf53 17 = .ok (.ireturn, 1) := by decide +kernel
theorem dJ9_floorMod_7cf53_18 : decode cJ9_floorMod_7cf53 18 = .ok (.iload_n 2, 1) := by decide +kernel
theorem dJ9_floorMod_7cf53_19 : decode cJ9_floorMod_7cf53 19 = .ok (.ireturn, 1) := by decide +kernel
theorem dJ9_min_7cf53_0 : decode cJ9_min_7cf53 0 = .ok (.iload_n 0, 1) := by decide +kernel
theorem dJ9_min_7cf53_1 : decode cJ9_min_7cf53 1 = .ok (.iload_n 1, 1) := by decide +kernel
theorem dJ9_min_7cf53_2 : decode cJ9_min_7cf53 2 = .ok (.if_icmp .gt 7, 3) := by decide +kernel
theorem dJ9_min_7cf53_5 : decode cJ9_min_7cf53 5 = .ok (.iload_n 0, 1) := by decide +kernel
theorem dJ9_min_7cf53_6 : decode cJ9_min_7cf53 6 = .ok (.goto 4, 3) := by decide +kernel
theorem dJ9_min_7cf53_9 : decode cJ9_min_7cf53 9 = .ok (.iload_n 1, 1) := by decide +kernel
theorem dJ9_min_7cf53_10 : decode cJ9_min_7cf53 10 = .ok (.ireturn, 1) := by decide +kernel
end
section
theorem dL_cell_0 : decode cL_cell 0 = .ok (.iload_n 1, 1) := by decide +kernel
theorem dL_cell_1 : decode cL_cell 1 = .ok (.aload_n 0, 1) := by decide +kernel
theorem dL_cell_2 : decode cL_cell 2 = .ok (.arraylength, 1) := by decide +kernel
theorem dL_cell_3 : decode cL_cell 3 = .ok (.if_icmp .ge 9, 3) := by decide +kernel
theorem dL_cell_6 : decode cL_cell 6 = .ok (.aload_n 0, 1) := by decide +kernel
theorem dL_cell_7 : decode cL_cell 7 = .ok (.iload_n 1, 1) := by decide +kernel
theorem dL_cell_8 : decode cL_cell 8 = .ok (.iaload, 1) := by decide +kernel
theorem dL_cell_9 : decode cL_cell 9 = .ok (.goto 14, 3) := by decide +kernel
theorem dL_cell_12 : decode cL_cell 12 = .ok (.ldc 7, 2) := by decide +kernel
theorem dL_cell_14 : decode cL_cell 14 = .ok (.iload_n 1, 1) := by decide +kernel
theorem dL_cell_15 : decode cL_cell 15 = .ok (.bipush 17, 2) := by decide +kernel
theorem dL_cell_17 : decode cL_cell 17 = .ok (.iadd, 1) := by decide +kernel
theorem dL_cell_18 : decode cL_cell 18 = .ok (.imul, 1) := by decide +kernel
theorem dL_cell_19 : decode cL_cell 19 = .ok (.sipush 2311, 3) := by decide +kernel
theorem dL_cell_22 : decode cL_cell 22 = .ok (.iadd, 1) := by decide +kernel
theorem dL_cell_23 : decode cL_cell 23 = .ok (.ldc 8, 2) := by decide +kernel
theorem dL_cell_25 : decode cL_cell 25 = .ok (.iand, 1) := by decide +kernel
theorem dL_cell_26 : decode cL_cell 26 = .ok (.ireturn, 1) := by decide +kernel
theorem dL_seen_0 : decode cL_seen 0 = .ok (.ldc2_w 9, 3) := by decide +kernel
theorem dL_seen_3 : decode cL_seen 3 = .ok (.lstore_n 1, 1) := by decide +kernel
theorem dL_seen_4 : decode cL_seen 4 = .ok (.iconst 0, 1) := by decide +kernel
theorem dL_seen_5 : decode cL_seen 5 = .ok (.istore_n 3, 1) := by decide +kernel
theorem dL_seen_6 : decode cL_seen 6 = .ok (.iload_n 3, 1) := by decide +kernel
theorem dL_seen_7 : decode cL_seen 7 = .ok (.bipush 9, 2) := by decide +kernel
theorem dL_seen_9 : decode cL_seen 9 = .ok (.if_icmp .ge 22, 3) := by decide +kernel
theorem dL_seen_12 : decode cL_seen 12 = .ok (.ldc2_w 11, 3) := by decide +kernel
theorem dL_seen_15 : decode cL_seen 15 = .ok (.lload_n 1, 1) := by decide +kernel
theorem dL_seen_16 : decode cL_seen 16 = .ok (.lmul, 1) := by decide +kernel
theorem dL_seen_17 : decode cL_seen 17 = .ok (.aload_n 0, 1) := by decide +kernel
theorem dL_seen_18 : decode cL_seen 18 = .ok (.iload_n 3, 1) := by decide +kernel
theorem dL_seen_19 : decode cL_seen 19 = .ok (.invokevirtual 13, 3) := by decide +kernel
theorem dL_seen_22 : decode cL_seen 22 = .ok (.i2l, 1) := by decide +kernel
theorem dL_seen_23 : decode cL_seen 23 = .ok (.ladd, 1) := by decide +kernel
theorem dL_seen_24 : decode cL_seen 24 = .ok (.lstore_n 1, 1) := by decide +kernel
theorem dL_seen_25 : decode cL_seen 25 = .ok (.iinc 3 1, 3) := by decide +kernel
theorem dL_seen_28 : decode cL_seen 28 = .ok (.goto (-22), 3) := by decide +kernel
theorem dL_seen_31 : decode cL_seen 31 = .ok (.iconst 0, 1) := by decide +kernel
theorem dL_seen_32 : decode cL_seen 32 = .ok (.istore_n 3, 1) := by decide +kernel
theorem dL_seen_33 : decode cL_seen 33 = .ok (.iload_n 3, 1) := by decide +kernel
theorem dL_seen_34 : decode cL_seen 34 = .ok (.bipush 32, 2) := by decide +kernel
theorem dL_seen_36 : decode cL_seen 36 = .ok (.if_icmp .ge 92, 3) := by decide +kernel
theorem dL_seen_39 : decode cL_seen 39 = .ok (.aload_n 0, 1) := by decide +kernel
theorem dL_seen_40 : decode cL_seen 40 = .ok (.iload_n 3, 1) := by decide +kernel
theorem dL_seen_41 : decode cL_seen 41 = .ok (.invokevirtual 19, 3) := by decide +kernel
theorem dL_seen_44 : decode cL_seen 44 = .ok (.istore 4, 2) := by decide +kernel
theorem dL_seen_46 : decode cL_seen 46 = .ok (.ldc2_w 11, 3) := by decide +kernel
theorem dL_seen_49 : decode cL_seen 49 = .ok (.ldc2_w 11, 3) := by decide +kernel
theorem dL_seen_52 : decode cL_seen 52 = .ok (.ldc2_w 11, 3) := by decide +kernel
theorem dL_seen_55 : decode cL_seen 55 = .ok (.lload_n 1, 1) := by decide +kernel
theorem dL_seen_56 : decode cL_seen 56 = .ok (.lmul, 1) := by decide +kernel
theorem dL_seen_57 : decode cL_seen 57 = .ok (.iload 4, 2) := by decide +kernel
theorem dL_seen_59 : decode cL_seen 59 = .ok (.i2l, 1) := by decide +kernel
theorem dL_seen_60 : decode cL_seen 60 = .ok (.ladd, 1) := by decide +kernel
theorem dL_seen_61 : decode cL_seen 61 = .ok (.lmul, 1) := by decide +kernel
theorem dL_seen_62 : decode cL_seen 62 = .ok (.aload_n 0, 1) := by decide +kernel
theorem dL_seen_63 : decode cL_seen 63 = .ok (.iload_n 3, 1) := by decide +kernel
theorem dL_seen_64 : decode cL_seen 64 = .ok (.invokevirtual 22, 3) := by decide +kernel
theorem dL_seen_67 : decode cL_seen 67 = .ok (.i2l, 1) := by decide +kernel
theorem dL_seen_68 : decode cL_seen 68 = .ok (.ladd, 1) := by decide +kernel
theorem dL_seen_69 : decode cL_seen 69 = .ok (.lmul, 1) := by decide +kernel
theorem dL_seen_70 : decode cL_seen 70 = .ok (.aload_n 0, 1) := by decide +kernel
theorem dL_seen_71 : decode cL_seen 71 = .ok (.iload_n 3, 1) := by decide +kernel
theorem dL_seen_72 : decode cL_seen 72 = .ok (.invokevirtual 25, 3) := by decide +kernel
theorem dL_seen_75 : decode cL_seen 75 = .ok (.i2l, 1) := by decide +kernel
theorem dL_seen_76 : decode cL_seen 76 = .ok (.ladd, 1) := by decide +kernel
theorem dL_seen_77 : decode cL_seen 77 = .ok (.lstore_n 1, 1) := by decide +kernel
theorem dL_seen_78 : decode cL_seen 78 = .ok (.ldc2_w 11, 3) := by decide +kernel
theorem dL_seen_81 : decode cL_seen 81 = .ok (.lload_n 1, 1) := by decide +kernel
theorem dL_seen_82 : decode cL_seen 82 = .ok (.lmul, 1) := by decide +kernel
theorem dL_seen_83 : decode cL_seen 83 = .ok (.iload 4, 2) := by decide +kernel
theorem dL_seen_85 : decode cL_seen 85 = .ok (.ifCond .ge 7, 3) := by decide +kernel
theorem dL_seen_88 : decode cL_seen 88 = .ok (.iconst 0, 1) := by decide +kernel
theorem dL_seen_89 : decode cL_seen 89 = .ok (.goto 30, 3) := by decide +kernel
theorem dL_seen_92 : decode cL_seen 92 = .ok (.ldc 28, 2) := by decide +kernel
theorem dL_seen_94 : decode cL_seen 94 = .ok (.aload_n 0, 1) := by decide +kernel
theorem dL_seen_95 : decode cL_seen 95 = .ok (.iload 4, 2) := by decide +kernel
theorem dL_seen_97 : decode cL_seen 97 = .ok (.invokevirtual 29, 3) := by decide +kernel
theorem dL_seen_100 : decode cL_seen 100 = .ok (.imul, 1) := by decide +kernel
theorem dL_seen_101 : decode cL_seen 101 = .ok (.sipush 1000, 3) := by decide +kernel
theorem dL_seen_104 : decode cL_seen 104 = .ok (.aload_n 0, 1) := by decide +kernel
theorem dL_seen_105 : decode cL_seen 105 = .ok (.iload 4, 2) := by decide +kernel
theorem dL_seen_107 : decode cL_seen 107 = .ok (.invokevirtual 32, 3) := by decide +kernel
theorem dL_seen_110 : decode cL_seen 110 = .ok (.imul, 1) := by decide +kernel
theorem dL_seen_111 : decode cL_seen 111 = .ok (.iadd, 1) := by decide +kernel
theorem dL_seen_112 : decode cL_seen 112 = .ok (.aload_n 0, 1) := by decide +kernel
theorem dL_seen_113 : decode cL_seen 113 = .ok (.iload 4, 2) := by decide +kernel
theorem dL_seen_115 : decode cL_seen 115 = .ok (.invokevirtual 35, 3) := by decide +kernel
theorem dL_seen_118 : decode cL_seen 118 = .ok (.iadd, 1) := by decide +kernel
theorem dL_seen_119 : decode cL_seen 119 = .ok (.i2l, 1) := by decide +kernel
theorem dL_seen_120 : decode cL_seen 120 = .ok (.ladd, 1) := by decide +kernel
theorem dL_seen_121 : decode cL_seen 121 = .ok (.lstore_n 1, 1) := by decide +kernel
theorem dL_seen_122 : decode cL_seen 122 = .ok (.iinc 3 1, 3) := by decide +kernel
theorem dL_seen_125 : decode cL_seen 125 = .ok (.goto (-92), 3) := by decide +kernel
theorem dL_seen_128 : decode cL_seen 128 = .ok (.lload_n 1, 1) := by decide +kernel
theorem dL_seen_129 : decode cL_seen 129 = .ok (.lreturn, 1) := by decide +kernel
theorem dL_isInOrder_0 : decode cL_isInOrder 0 = .ok (.iconst 0, 1) := by decide +kernel
theorem dL_isInOrder_1 : decode cL_isInOrder 1 = .ok (.istore_n 1, 1) := by decide +kernel
theorem dL_isInOrder_2 : decode cL_isInOrder 2 = .ok (.iconst (-1), 1) := by decide +kernel
theorem dL_isInOrder_3 : decode cL_isInOrder 3 = .ok (.istore_n 2, 1) := by decide +kernel
theorem dL_isInOrder_4 : decode cL_isInOrder 4 = .ok (.iconst 0, 1) := by decide +kernel
theorem dL_isInOrder_5 : decode cL_isInOrder 5 = .ok (.istore_n 3, 1) := by decide +kernel
theorem dL_isInOrder_6 : decode cL_isInOrder 6 = .ok (.iconst 0, 1) := by decide +kernel
theorem dL_isInOrder_7 : decode cL_isInOrder 7 = .ok (.istore 4, 2) := by decide +kernel
theorem dL_isInOrder_9 : decode cL_isInOrder 9 = .ok (.iconst 1, 1) := by decide +kernel
theorem dL_isInOrder_10 : decode cL_isInOrder 10 = .ok (.istore 5, 2) := by decide +kernel
theorem dL_isInOrder_12 : decode cL_isInOrder 12 = .ok (.iconst 0, 1) := by decide +kernel
theorem dL_isInOrder_13 : decode cL_isInOrder 13 = .ok (.istore 6, 2) := by decide +kernel
theorem dL_isInOrder_15 : decode cL_isInOrder 15 = .ok (.iload 6, 2) := by decide +kernel
theorem dL_isInOrder_17 : decode cL_isInOrder 17 = .ok (.bipush 32, 2) := by decide +kernel
theorem dL_isInOrder_19 : decode cL_isInOrder 19 = .ok (.if_icmp .ge 215, 3) := by decide +kernel
theorem dL_isInOrder_22 : decode cL_isInOrder 22 = .ok (.iload 5, 2) := by decide +kernel
theorem dL_isInOrder_24 : decode cL_isInOrder 24 = .ok (.ifCond .eq 210, 3) := by decide +kernel
theorem dL_isInOrder_27 : decode cL_isInOrder 27 = .ok (.aload_n 0, 1) := by decide +kernel
theorem dL_isInOrder_28 : decode cL_isInOrder 28 = .ok (.iload 6, 2) := by decide +kernel
theorem dL_isInOrder_30 : decode cL_isInOrder 30 = .ok (.invokevirtual 19, 3) := by decide +kernel
theorem dL_isInOrder_33 : decode cL_isInOrder 33 = .ok (.istore 7, 2) := by decide +kernel
theorem dL_isInOrder_35 : decode cL_isInOrder 35 = .ok (.iload 7, 2) := by decide +kernel
theorem dL_isInOrder_37 : decode cL_isInOrder 37 = .ok (.ifCond .lt 191, 3) := by decide +kernel
theorem dL_isInOrder_40 : decode cL_isInOrder 40 = .ok (.aload_n 0, 1) := by decide +kernel
theorem dL_isInOrder_41 : decode cL_isInOrder 41 = .ok (.iload 7, 2) := by decide +kernel
theorem dL_isInOrder_43 : decode cL_isInOrder 43 = .ok (.invokevirtual 32, 3) := by decide +kernel
theorem dL_isInOrder_46 : decode cL_isInOrder 46 = .ok (.istore 8, 2) := by decide +kernel
theorem dL_isInOrder_48 : decode cL_isInOrder 48 = .ok (.aload_n 0, 1) := by decide +kernel
theorem dL_isInOrder_49 : decode cL_isInOrder 49 = .ok (.iload 7, 2) := by decide +kernel
theorem dL_isInOrder_51 : decode cL_isInOrder 51 = .ok (.invokevirtual 38, 3) := by decide +kernel
theorem dL_isInOrder_54 : decode cL_isInOrder 54 = .ok (.istore 9, 2) := by decide +kernel
theorem dL_isInOrder_56 : decode cL_isInOrder 56 = .ok (.iload 8, 2) := by decide +kernel
theorem dL_isInOrder_58 : decode cL_isInOrder 58 = .ok (.iload_n 1, 1) := by decide +kernel
theorem dL_isInOrder_59 : decode cL_isInOrder 59 = .ok (.if_icmp .lt 73, 3) := by decide +kernel
theorem dL_isInOrder_62 : decode cL_isInOrder 62 = .ok (.iload 8, 2) := by decide +kernel
theorem dL_isInOrder_64 : decode cL_isInOrder 64 = .ok (.bipush 100, 2) := by decide +kernel
theorem dL_isInOrder_66 : decode cL_isInOrder 66 = .ok (.if_icmp .ge 66, 3) := by decide +kernel
theorem dL_isInOrder_69 : decode cL_isInOrder 69 = .ok (.iload 8, 2) := by decide +kernel
theorem dL_isInOrder_71 : decode cL_isInOrder 71 = .ok (.iload_n 1, 1) := by decide +kernel
theorem dL_isInOrder_72 : decode cL_isInOrder 72 = .ok (.if_icmp .gt 9, 3) := by decide +kernel
theorem dL_isInOrder_75 : decode cL_isInOrder 75 = .ok (.iload 7, 2) := by decide +kernel
theorem dL_isInOrder_77 : decode cL_isInOrder 77 = .ok (.iload_n 2, 1) := by decide +kernel
theorem dL_isInOrder_78 : decode cL_isInOrder 78 = .ok (.if_icmp .lt 54, 3) := by decide +kernel
theorem dL_isInOrder_81 : decode cL_isInOrder 81 = .ok (.iload 9, 2) := by decide +kernel
theorem dL_isInOrder_83 : decode cL_isInOrder 83 = .ok (.ifCond .le 49, 3) := by decide +kernel
theorem dL_isInOrder_86 : decode cL_isInOrder 86 = .ok (.aload_n 0, 1) := by decide +kernel
theorem dL_isInOrder_87 : decode cL_isInOrder 87 = .ok (.iload 7, 2) := by decide +kernel
theorem dL_isInOrder_89 : decode cL_isInOrder 89 = .ok (.invokevirtual 29, 3) := by decide +kernel
theorem dL_isInOrder_92 : decode cL_isInOrder 92 = .ok (.ifCond .lt 40, 3) := by decide +kernel
theorem dL_isInOrder_95 : decode cL_isInOrder 95 = .ok (.aload_n 0, 1) := by decide +kernel
theorem dL_isInOrder_96 : decode cL_isInOrder 96 = .ok (.iload 7, 2) := by decide +kernel
theorem dL_isInOrder_98 : decode cL_isInOrder 98 = .ok (.invokevirtual 29, 3) := by decide +kernel
theorem dL_isInOrder_101 : decode cL_isInOrder 101 = .ok (.bipush 10, 2) := by decide +kernel
theorem dL_isInOrder_103 : decode cL_isInOrder 103 = .ok (.if_icmp .ge 29, 3) := by decide +kernel
theorem dL_isInOrder_106 : decode cL_isInOrder 106 = .ok (.iload 7, 2) := by decide +kernel
theorem dL_isInOrder_108 : decode cL_isInOrder 108 = .ok (.aload_n 0, 1) := by decide +kernel
theorem dL_isInOrder_109 : decode cL_isInOrder 109 = .ok (.iconst 2, 1) := by decide +kernel
theorem dL_isInOrder_110 : decode cL_isInOrder 110 = .ok (.invokevirtual 13, 3) := by decide +kernel
theorem dL_isInOrder_113 : decode cL_isInOrder 113 = .ok (.if_icmp .ge 19, 3) := by decide +kernel
theorem dL_isInOrder_116 : decode cL_isInOrder 116 = .ok (.aload_n 0, 1) := by decide +kernel
theorem dL_isInOrder_117 : decode cL_isInOrder 117 = .ok (.iload 7, 2) := by decide +kernel
theorem dL_isInOrder_119 : decode cL_isInOrder 119 = .ok (.iload 9, 2) := by decide +kernel
theorem dL_isInOrder_121 : decode cL_isInOrder 121 = .ok (.invokevirtual 41, 3) := by decide +kernel
theorem dL_isInOrder_124 : decode cL_isInOrder 124 = .ok (.iconst (-1), 1) := by decide +kernel
theorem dL_isInOrder_125 : decode cL_isInOrder 125 = .ok (.if_icmp .ne 7, 3) := by decide +kernel
theorem dL_isInOrder_128 : decode cL_isInOrder 128 = .ok (.iconst 1, 1) := by decide +kernel
theorem dL_isInOrder_129 : decode cL_isInOrder 129 = .ok (.goto 4, 3) := by decide +kernel
theorem dL_isInOrder_132 : decode cL_isInOrder 132 = .ok (.iconst 0, 1) := by decide +kernel
theorem dL_isInOrder_133 : decode cL_isInOrder 133 = .ok (.istore 5, 2) := by decide +kernel
theorem dL_isInOrder_135 : decode cL_isInOrder 135 = .ok (.iload 5, 2) := by decide +kernel
theorem dL_isInOrder_137 : decode cL_isInOrder 137 = .ok (.ifCond .eq 82, 3) := by decide +kernel
theorem dL_isInOrder_140 : decode cL_isInOrder 140 = .ok (.aload_n 0, 1) := by decide +kernel
theorem dL_isInOrder_141 : decode cL_isInOrder 141 = .ok (.iload 7, 2) := by decide +kernel
theorem dL_isInOrder_143 : decode cL_isInOrder 143 = .ok (.iconst 0, 1) := by decide +kernel
theorem dL_isInOrder_144 : decode cL_isInOrder 144 = .ok (.invokevirtual 41, 3) := by decide +kernel
theorem dL_isInOrder_147 : decode cL_isInOrder 147 = .ok (.iload 6, 2) := by decide +kernel
theorem dL_isInOrder_149 : decode cL_isInOrder 149 = .ok (.if_icmp .ne 70, 3) := by decide +kernel
theorem dL_isInOrder_152 : decode cL_isInOrder 152 = .ok (.iinc 4 1, 3) := by decide +kernel
theorem dL_isInOrder_155 : decode cL_isInOrder 155 = .ok (.iconst 1, 1) := by decide +kernel
theorem dL_isInOrder_156 : decode cL_isInOrder 156 = .ok (.istore 10, 2) := by decide +kernel
theorem dL_isInOrder_158 : decode cL_isInOrder 158 = .ok (.iload 10, 2) := by decide +kernel
theorem dL_isInOrder_160 : decode cL_isInOrder 160 = .ok (.iload 9, 2) := by decide +kernel
theorem dL_isInOrder_162 : decode cL_isInOrder 162 = .ok (.if_icmp .ge 57, 3) := by decide +kernel
theorem dL_isInOrder_165 : decode cL_isInOrder 165 = .ok (.iload 5, 2) := by decide +kernel
theorem dL_isInOrder_167 : decode cL_isInOrder 167 = .ok (.ifCond .eq 52, 3) := by decide +kernel
theorem dL_isInOrder_170 : decode cL_isInOrder 170 = .ok (.aload_n 0, 1) := by decide +kernel
theorem dL_isInOrder_171 : decode cL_isInOrder 171 = .ok (.iload 7, 2) := by decide +kernel
theorem dL_isInOrder_173 : decode cL_isInOrder 173 = .ok (.iload 10, 2) := by decide +kernel
theorem dL_isInOrder_175 : decode cL_isInOrder 175 = .ok (.invokevirtual 41, 3) := by decide +kernel
theorem dL_isInOrder_178 : decode cL_isInOrder 178 = .ok (.istore 11, 2) := by decide +kernel
theorem dL_isInOrder_180 : decode cL_isInOrder 180 = .ok (.iload 11, 2) := by decide +kernel
theorem dL_isInOrder_182 : decode cL_isInOrder 182 = .ok (.aload_n 0, 1) := by decide +kernel
theorem dL_isInOrder_183 : decode cL_isInOrder 183 = .ok (.iload 7, 2) := by decide +kernel
theorem dL_isInOrder_185 : decode cL_isInOrder 185 = .ok (.iload 10, 2) := by decide +kernel
theorem dL_isInOrder_187 : decode cL_isInOrder 187 = .ok (.iconst 1, 1) := by decide +kernel
theorem dL_isInOrder_188 : decode cL_isInOrder 188 = .ok (.isub, 1) := by decide +kernel
theorem dL_isInOrder_189 : decode cL_isInOrder 189 = .ok (.invokevirtual 41, 3) := by decide +kernel
theorem dL_isInOrder_192 : decode cL_isInOrder 192 = .ok (.if_icmp .le 18, 3) := by decide +kernel
theorem dL_isInOrder_195 : decode cL_isInOrder 195 = .ok (.aload_n 0, 1) := by decide +kernel
theorem dL_isInOrder_196 : decode cL_isInOrder 196 = .ok (.iload 11, 2) := by decide +kernel
theorem dL_isInOrder_198 : decode cL_isInOrder 198 = .ok (.invokevirtual 19, 3) := by decide +kernel
theorem dL_isInOrder_201 : decode cL_isInOrder 201 = .ok (.iload 7, 2) := by decide +kernel
theorem dL_isInOrder_203 : decode cL_isInOrder 203 = .ok (.if_icmp .ne 7, 3) := by decide +kernel
theorem dL_isInOrder_206 : decode cL_isInOrder 206 = .ok (.iconst 1, 1) := by decide +kernel
theorem dL_isInOrder_207 : decode cL_isInOrder 207 = .ok (.goto 4, 3) := by decide +kernel
theorem dL_isInOrder_210 : decode cL_isInOrder 210 = .ok (.iconst 0, 1) := by decide +kernel
theorem dL_isInOrder_211 : decode cL_isInOrder 211 = .ok (.istore 5, 2) := by decide +kernel
theorem dL_isInOrder_213 : decode cL_isInOrder 213 = .ok (.iinc 10 1, 3) := by decide +kernel
theorem dL_isInOrder_216 : decode cL_isInOrder 216 = .ok (.goto (-58), 3) := by decide +kernel
theorem dL_isInOrder_219 : decode cL_isInOrder 219 = .ok (.iload 8, 2) := by decide +kernel
theorem dL_isInOrder_221 : decode cL_isInOrder 221 = .ok (.istore_n 1, 1) := by decide +kernel
theorem dL_isInOrder_222 : decode cL_isInOrder 222 = .ok (.iload 7, 2) := by decide +kernel
theorem dL_isInOrder_224 : decode cL_isInOrder 224 = .ok (.istore_n 2, 1) := by decide +kernel
theorem dL_isInOrder_225 : decode cL_isInOrder 225 = .ok (.iinc 3 1, 3) := by decide +kernel
theorem dL_isInOrder_228 : decode cL_isInOrder 228 = .ok (.iinc 6 1, 3) := by decide +kernel
theorem dL_isInOrder_231 : decode cL_isInOrder 231 = .ok (.goto (-216), 3) := by decide +kernel
theorem dL_isInOrder_234 : decode cL_isInOrder 234 = .ok (.iload 5, 2) := by decide +kernel
theorem dL_isInOrder_236 : decode cL_isInOrder 236 = .ok (.ifCond .eq 26, 3) := by decide +kernel
theorem dL_isInOrder_239 : decode cL_isInOrder 239 = .ok (.iload_n 3, 1) := by decide +kernel
theorem dL_isInOrder_240 : decode cL_isInOrder 240 = .ok (.aload_n 0, 1) := by decide +kernel
theorem dL_isInOrder_241 : decode cL_isInOrder 241 = .ok (.iconst 0, 1) := by decide +kernel
theorem dL_isInOrder_242 : decode cL_isInOrder 242 = .ok (.invokevirtual 13, 3) := by decide +kernel
theorem dL_isInOrder_245 : decode cL_isInOrder 245 = .ok (.if_icmp .ne 17, 3) := by decide +kernel
theorem dL_isInOrder_248 : decode cL_isInOrder 248 = .ok (.iload 4, 2) := by decide +kernel
theorem dL_isInOrder_250 : decode cL_isInOrder 250 = .ok (.aload_n 0, 1) := by decide +kernel
theorem dL_isInOrder_251 : decode cL_isInOrder 251 = .ok (.iconst 1, 1) := by decide +kernel
theorem dL_isInOrder_252 : decode cL_isInOrder 252 = .ok (.invokevirtual 13, 3) := by decide +kernel
theorem dL_isInOrder_255 : decode cL_isInOrder 255 = .ok (.if_icmp .ne 7, 3) := by decide +kernel
theorem dL_isInOrder_258 : decode cL_isInOrder 258 = .ok (.iconst 1, 1) := by decide +kernel
theorem dL_isInOrder_259 : decode cL_isInOrder 259 = .ok (.goto 4, 3) := by decide +kernel
theorem dL_isInOrder_262 : decode cL_isInOrder 262 = .ok (.iconst 0, 1) := by decide +kernel
theorem dL_isInOrder_263 : decode cL_isInOrder 263 = .ok (.ireturn, 1) := by decide +kernel
theorem dL_isCounted_0 : decode cL_isCounted 0 = .ok (.iconst 0, 1) := by decide +kernel
theorem dL_isCounted_1 : decode cL_isCounted 1 = .ok (.istore_n 2, 1) := by decide +kernel
theorem dL_isCounted_2 : decode cL_isCounted 2 = .ok (.iconst 0, 1) := by decide +kernel
theorem dL_isCounted_3 : decode cL_isCounted 3 = .ok (.istore_n 3, 1) := by decide +kernel
theorem dL_isCounted_4 : decode cL_isCounted 4 = .ok (.iconst 0, 1) := by decide +kernel
theorem dL_isCounted_5 : decode cL_isCounted 5 = .ok (.istore 4, 2) := by decide +kernel
theorem dL_isCounted_7 : decode cL_isCounted 7 = .ok (.iload 4, 2) := by decide +kernel
theorem dL_isCounted_9 : decode cL_isCounted 9 = .ok (.bipush 32, 2) := by decide +kernel
theorem dL_isCounted_11 : decode cL_isCounted 11 = .ok (.if_icmp .ge 44, 3) := by decide +kernel
theorem dL_isCounted_14 : decode cL_isCounted 14 = .ok (.aload_n 0, 1) := by decide +kernel
theorem dL_isCounted_15 : decode cL_isCounted 15 = .ok (.iload 4, 2) := by decide +kernel
theorem dL_isCounted_17 : decode cL_isCounted 17 = .ok (.invokevirtual 47, 3) := by decide +kernel
theorem dL_isCounted_20 : decode cL_isCounted 20 = .ok (.istore 5, 2) := by decide +kernel
theorem dL_isCounted_22 : decode cL_isCounted 22 = .ok (.iload_n 2, 1) := by decide +kernel
theorem dL_isCounted_23 : decode cL_isCounted 23 = .ok (.iload 5, 2) := by decide +kernel
theorem dL_isCounted_25 : decode cL_isCounted 25 = .ok (.iadd, 1) := by decide +kernel
theorem dL_isCounted_26 : decode cL_isCounted 26 = .ok (.istore_n 2, 1) := by decide +kernel
theorem dL_isCounted_27 : decode cL_isCounted 27 = .ok (.iload_n 3, 1) := by decide +kernel
theorem dL_isCounted_28 : decode cL_isCounted 28 = .ok (.aload_n 0, 1) := by decide +kernel
theorem dL_isCounted_29 : decode cL_isCounted 29 = .ok (.iload 4, 2) := by decide +kernel
theorem dL_isCounted_31 : decode cL_isCounted 31 = .ok (.invokevirtual 19, 3) := by decide +kernel
theorem dL_isCounted_34 : decode cL_isCounted 34 = .ok (.ifCond .lt 12, 3) := by decide +kernel
theorem dL_isCounted_37 : decode cL_isCounted 37 = .ok (.iload 5, 2) := by decide +kernel
theorem dL_isCounted_39 : decode cL_isCounted 39 = .ok (.ifCond .ne 7, 3) := by decide +kernel
theorem dL_isCounted_42 : decode cL_isCounted 42 = .ok (.iconst 1, 1) := by decide +kernel
theorem dL_isCounted_43 : decode cL_isCounted 43 = .ok (.goto 4, 3) := by decide +kernel
theorem dL_isCounted_46 : decode cL_isCounted 46 = .ok (.iconst 0, 1) := by decide +kernel
theorem dL_isCounted_47 : decode cL_isCounted 47 = .ok (.iadd, 1) := by decide +kernel
theorem dL_isCounted_48 : decode cL_isCounted 48 = .ok (.istore_n 3, 1) := by decide +kernel
theorem dL_isCounted_49 : decode cL_isCounted 49 = .ok (.iinc 4 1, 3) := by decide +kernel
theorem dL_isCounted_52 : decode cL_isCounted 52 = .ok (.goto (-45), 3) := by decide +kernel
theorem dL_isCounted_55 : decode cL_isCounted 55 = .ok (.iload_n 1, 1) := by decide +kernel
theorem dL_isCounted_56 : decode cL_isCounted 56 = .ok (.sipush 255, 3) := by decide +kernel
theorem dL_isCounted_59 : decode cL_isCounted 59 = .ok (.iand, 1) := by decide +kernel
theorem dL_isCounted_60 : decode cL_isCounted 60 = .ok (.istore 4, 2) := by decide +kernel
theorem dL_isCounted_62 : decode cL_isCounted 62 = .ok (.aload_n 0, 1) := by decide +kernel
theorem dL_isCounted_63 : decode cL_isCounted 63 = .ok (.iload 4, 2) := by decide +kernel
theorem dL_isCounted_65 : decode cL_isCounted 65 = .ok (.invokevirtual 50, 3) := by decide +kernel
theorem dL_isCounted_68 : decode cL_isCounted 68 = .ok (.istore 5, 2) := by decide +kernel
theorem dL_isCounted_70 : decode cL_isCounted 70 = .ok (.aload_n 0, 1) := by decide +kernel
theorem dL_isCounted_71 : decode cL_isCounted 71 = .ok (.iload 4, 2) := by decide +kernel
theorem dL_isCounted_73 : decode cL_isCounted 73 = .ok (.invokevirtual 53, 3) := by decide +kernel
theorem dL_isCounted_76 : decode cL_isCounted 76 = .ok (.istore 6, 2) := by decide +kernel
theorem dL_isCounted_78 : decode cL_isCounted 78 = .ok (.iload_n 2, 1) := by decide +kernel
theorem dL_isCounted_79 : decode cL_isCounted 79 = .ok (.aload_n 0, 1) := by decide +kernel
theorem dL_isCounted_80 : decode cL_isCounted 80 = .ok (.bipush 8, 2) := by decide +kernel
theorem dL_isCounted_82 : decode cL_isCounted 82 = .ok (.invokevirtual 13, 3) := by decide +kernel
theorem dL_isCounted_85 : decode cL_isCounted 85 = .ok (.iadd, 1) := by decide +kernel
theorem dL_isCounted_86 : decode cL_isCounted 86 = .ok (.sipush 256, 3) := by decide +kernel
theorem dL_isCounted_89 : decode cL_isCounted 89 = .ok (.if_icmp .ne 44, 3) := by decide +kernel
theorem dL_isCounted_92 : decode cL_isCounted 92 = .ok (.aload_n 0, 1) := by decide +kernel
theorem dL_isCounted_93 : decode cL_isCounted 93 = .ok (.bipush 7, 2) := by decide +kernel
theorem dL_isCounted_95 : decode cL_isCounted 95 = .ok (.invokevirtual 13, 3) := by decide +kernel
theorem dL_isCounted_98 : decode cL_isCounted 98 = .ok (.iload_n 3, 1) := by decide +kernel
theorem dL_isCounted_99 : decode cL_isCounted 99 = .ok (.if_icmp .ne 34, 3) := by decide +kernel
theorem dL_isCounted_102 : decode cL_isCounted 102 = .ok (.iload 5, 2) := by decide +kernel
theorem dL_isCounted_104 : decode cL_isCounted 104 = .ok (.bipush (-4), 2) := by decide +kernel
theorem dL_isCounted_106 : decode cL_isCounted 106 = .ok (.if_icmp .eq 13, 3) := by decide +kernel
theorem dL_isCounted_109 : decode cL_isCounted 109 = .ok (.iload 5, 2) := by decide +kernel
theorem dL_isCounted_111 : decode cL_isCounted 111 = .ok (.ifCond .lt 22, 3) := by decide +kernel
theorem dL_isCounted_114 : decode cL_isCounted 114 = .ok (.iload 6, 2) := by decide +kernel
theorem dL_isCounted_116 : decode cL_isCounted 116 = .ok (.ifCond .le 17, 3) := by decide +kernel
theorem dL_isCounted_119 : decode cL_isCounted 119 = .ok (.iload 6, 2) := by decide +kernel
theorem dL_isCounted_121 : decode cL_isCounted 121 = .ok (.aload_n 0, 1) := by decide +kernel
theorem dL_isCounted_122 : decode cL_isCounted 122 = .ok (.iconst 0, 1) := by decide +kernel
theorem dL_isCounted_123 : decode cL_isCounted 123 = .ok (.invokevirtual 13, 3) := by decide +kernel
theorem dL_isCounted_126 : decode cL_isCounted 126 = .ok (.if_icmp .gt 7, 3) := by decide +kernel
theorem dL_isCounted_129 : decode cL_isCounted 129 = .ok (.iconst 1, 1) := by decide +kernel
theorem dL_isCounted_130 : decode cL_isCounted 130 = .ok (.goto 4, 3) := by decide +kernel
theorem dL_isCounted_133 : decode cL_isCounted 133 = .ok (.iconst 0, 1) := by decide +kernel
theorem dL_isCounted_134 : decode cL_isCounted 134 = .ok (.ireturn, 1) := by decide +kernel
theorem dL_refusesAny_0 : decode cL_refusesAny 0 = .ok (.iload_n 1, 1) := by decide +kernel
theorem dL_refusesAny_1 : decode cL_refusesAny 1 = .ok (.iconst 2, 1) := by decide +kernel
theorem dL_refusesAny_2 : decode cL_refusesAny 2 = .ok (.irem, 1) := by decide +kernel
theorem dL_refusesAny_3 : decode cL_refusesAny 3 = .ok (.ifCond .ne 13, 3) := by decide +kernel
theorem dL_refusesAny_6 : decode cL_refusesAny 6 = .ok (.iconst (-1), 1) := by decide +kernel
theorem dL_refusesAny_7 : decode cL_refusesAny 7 = .ok (.iload_n 1, 1) := by decide +kernel
theorem dL_refusesAny_8 : decode cL_refusesAny 8 = .ok (.sipush 300, 3) := by decide +kernel
theorem dL_refusesAny_11 : decode cL_refusesAny 11 = .ok (.irem, 1) := by decide +kernel
theorem dL_refusesAny_12 : decode cL_refusesAny 12 = .ok (.isub, 1) := by decide +kernel
theorem dL_refusesAny_13 : decode cL_refusesAny 13 = .ok (.goto 12, 3) := by decide +kernel
theorem dL_refusesAny_16 : decode cL_refusesAny 16 = .ok (.sipush 256, 3) := by decide +kernel
theorem dL_refusesAny_19 : decode cL_refusesAny 19 = .ok (.iload_n 1, 1) := by decide +kernel
theorem dL_refusesAny_20 : decode cL_refusesAny 20 = .ok (.sipush 300, 3) := by decide +kernel
theorem dL_refusesAny_23 : decode cL_refusesAny 23 = .ok (.irem, 1) := by decide +kernel
theorem dL_refusesAny_24 : decode cL_refusesAny 24 = .ok (.iadd, 1) := by decide +kernel
theorem dL_refusesAny_25 : decode cL_refusesAny 25 = .ok (.istore_n 2, 1) := by decide +kernel
theorem dL_refusesAny_26 : decode cL_refusesAny 26 = .ok (.iload_n 1, 1) := by decide +kernel
theorem dL_refusesAny_27 : decode cL_refusesAny 27 = .ok (.iconst 2, 1) := by decide +kernel
theorem dL_refusesAny_28 : decode cL_refusesAny 28 = .ok (.irem, 1) := by decide +kernel
theorem dL_refusesAny_29 : decode cL_refusesAny 29 = .ok (.ifCond .ne 13, 3) := by decide +kernel
theorem dL_refusesAny_32 : decode cL_refusesAny 32 = .ok (.iconst (-1), 1) := by decide +kernel
theorem dL_refusesAny_33 : decode cL_refusesAny 33 = .ok (.iload_n 1, 1) := by decide +kernel
theorem dL_refusesAny_34 : decode cL_refusesAny 34 = .ok (.sipush 300, 3) := by decide +kernel
theorem dL_refusesAny_37 : decode cL_refusesAny 37 = .ok (.irem, 1) := by decide +kernel
theorem dL_refusesAny_38 : decode cL_refusesAny 38 = .ok (.isub, 1) := by decide +kernel
theorem dL_refusesAny_39 : decode cL_refusesAny 39 = .ok (.goto 11, 3) := by decide +kernel
theorem dL_refusesAny_42 : decode cL_refusesAny 42 = .ok (.bipush 100, 2) := by decide +kernel
theorem dL_refusesAny_44 : decode cL_refusesAny 44 = .ok (.iload_n 1, 1) := by decide +kernel
theorem dL_refusesAny_45 : decode cL_refusesAny 45 = .ok (.sipush 300, 3) := by decide +kernel
theorem dL_refusesAny_48 : decode cL_refusesAny 48 = .ok (.irem, 1) := by decide +kernel
theorem dL_refusesAny_49 : decode cL_refusesAny 49 = .ok (.iadd, 1) := by decide +kernel
theorem dL_refusesAny_50 : decode cL_refusesAny 50 = .ok (.istore_n 3, 1) := by decide +kernel
theorem dL_refusesAny_51 : decode cL_refusesAny 51 = .ok (.iload_n 1, 1) := by decide +kernel
theorem dL_refusesAny_52 : decode cL_refusesAny 52 = .ok (.iconst 2, 1) := by decide +kernel
theorem dL_refusesAny_53 : decode cL_refusesAny 53 = .ok (.irem, 1) := by decide +kernel
theorem dL_refusesAny_54 : decode cL_refusesAny 54 = .ok (.ifCond .ne 13, 3) := by decide +kernel
theorem dL_refusesAny_57 : decode cL_refusesAny 57 = .ok (.iconst (-1), 1) := by decide +kernel
theorem dL_refusesAny_58 : decode cL_refusesAny 58 = .ok (.iload_n 1, 1) := by decide +kernel
theorem dL_refusesAny_59 : decode cL_refusesAny 59 = .ok (.sipush 300, 3) := by decide +kernel
theorem dL_refusesAny_62 : decode cL_refusesAny 62 = .ok (.irem, 1) := by decide +kernel
theorem dL_refusesAny_63 : decode cL_refusesAny 63 = .ok (.isub, 1) := by decide +kernel
theorem dL_refusesAny_64 : decode cL_refusesAny 64 = .ok (.goto 11, 3) := by decide +kernel
theorem dL_refusesAny_67 : decode cL_refusesAny 67 = .ok (.bipush 10, 2) := by decide +kernel
theorem dL_refusesAny_69 : decode cL_refusesAny 69 = .ok (.iload_n 1, 1) := by decide +kernel
theorem dL_refusesAny_70 : decode cL_refusesAny 70 = .ok (.sipush 300, 3) := by decide +kernel
theorem dL_refusesAny_73 : decode cL_refusesAny 73 = .ok (.irem, 1) := by decide +kernel
theorem dL_refusesAny_74 : decode cL_refusesAny 74 = .ok (.iadd, 1) := by decide +kernel
theorem dL_refusesAny_75 : decode cL_refusesAny 75 = .ok (.istore 4, 2) := by decide +kernel
theorem dL_refusesAny_77 : decode cL_refusesAny 77 = .ok (.iload_n 1, 1) := by decide +kernel
theorem dL_refusesAny_78 : decode cL_refusesAny 78 = .ok (.iconst 2, 1) := by decide +kernel
theorem dL_refusesAny_79 : decode cL_refusesAny 79 = .ok (.irem, 1) := by decide +kernel
theorem dL_refusesAny_80 : decode cL_refusesAny 80 = .ok (.ifCond .ne 13, 3) := by decide +kernel
theorem dL_refusesAny_83 : decode cL_refusesAny 83 = .ok (.iconst (-1), 1) := by decide +kernel
theorem dL_refusesAny_84 : decode cL_refusesAny 84 = .ok (.iload_n 1, 1) := by decide +kernel
theorem dL_refusesAny_85 : decode cL_refusesAny 85 = .ok (.sipush 300, 3) := by decide +kernel
theorem dL_refusesAny_88 : decode cL_refusesAny 88 = .ok (.irem, 1) := by decide +kernel
theorem dL_refusesAny_89 : decode cL_refusesAny 89 = .ok (.isub, 1) := by decide +kernel
theorem dL_refusesAny_90 : decode cL_refusesAny 90 = .ok (.goto 14, 3) := by decide +kernel
theorem dL_refusesAny_93 : decode cL_refusesAny 93 = .ok (.aload_n 0, 1) := by decide +kernel
theorem dL_refusesAny_94 : decode cL_refusesAny 94 = .ok (.iconst 2, 1) := by decide +kernel
theorem dL_refusesAny_95 : decode cL_refusesAny 95 = .ok (.invokevirtual 13, 3) := by decide +kernel
theorem dL_refusesAny_98 : decode cL_refusesAny 98 = .ok (.iload_n 1, 1) := by decide +kernel
theorem dL_refusesAny_99 : decode cL_refusesAny 99 = .ok (.sipush 300, 3) := by decide +kernel
theorem dL_refusesAny_102 : decode cL_refusesAny 102 = .ok (.irem, 1) := by decide +kernel
theorem dL_refusesAny_103 : decode cL_refusesAny 103 = .ok (.iadd, 1) := by decide +kernel
theorem dL_refusesAny_104 : decode cL_refusesAny 104 = .ok (.istore 5, 2) := by decide +kernel
theorem dL_refusesAny_106 : decode cL_refusesAny 106 = .ok (.iload_n 1, 1) := by decide +kernel
theorem dL_refusesAny_107 : decode cL_refusesAny 107 = .ok (.iconst 2, 1) := by decide +kernel
theorem dL_refusesAny_108 : decode cL_refusesAny 108 = .ok (.irem, 1) := by decide +kernel
theorem dL_refusesAny_109 : decode cL_refusesAny 109 = .ok (.ifCond .ne 13, 3) := by decide +kernel
theorem dL_refusesAny_112 : decode cL_refusesAny 112 = .ok (.iconst (-1), 1) := by decide +kernel
theorem dL_refusesAny_113 : decode cL_refusesAny 113 = .ok (.iload_n 1, 1) := by decide +kernel
theorem dL_refusesAny_114 : decode cL_refusesAny 114 = .ok (.sipush 300, 3) := by decide +kernel
theorem dL_refusesAny_117 : decode cL_refusesAny 117 = .ok (.irem, 1) := by decide +kernel
theorem dL_refusesAny_118 : decode cL_refusesAny 118 = .ok (.isub, 1) := by decide +kernel
theorem dL_refusesAny_119 : decode cL_refusesAny 119 = .ok (.goto 11, 3) := by decide +kernel
theorem dL_refusesAny_122 : decode cL_refusesAny 122 = .ok (.bipush 32, 2) := by decide +kernel
theorem dL_refusesAny_124 : decode cL_refusesAny 124 = .ok (.iload_n 1, 1) := by decide +kernel
theorem dL_refusesAny_125 : decode cL_refusesAny 125 = .ok (.sipush 300, 3) := by decide +kernel
theorem dL_refusesAny_128 : decode cL_refusesAny 128 = .ok (.irem, 1) := by decide +kernel
theorem dL_refusesAny_129 : decode cL_refusesAny 129 = .ok (.iadd, 1) := by decide +kernel
theorem dL_refusesAny_130 : decode cL_refusesAny 130 = .ok (.istore 6, 2) := by decide +kernel
theorem dL_refusesAny_132 : decode cL_refusesAny 132 = .ok (.aload_n 0, 1) := by decide +kernel
theorem dL_refusesAny_133 : decode cL_refusesAny 133 = .ok (.iload_n 2, 1) := by decide +kernel
theorem dL_refusesAny_134 : decode cL_refusesAny 134 = .ok (.iconst 0, 1) := by decide +kernel
theorem dL_refusesAny_135 : decode cL_refusesAny 135 = .ok (.iconst 0, 1) := by decide +kernel
theorem dL_refusesAny_136 : decode cL_refusesAny 136 = .ok (.iconst 0, 1) := by decide +kernel
theorem dL_refusesAny_137 : decode cL_refusesAny 137 = .ok (.invokevirtual 56, 3) := by decide +kernel
theorem dL_refusesAny_140 : decode cL_refusesAny 140 = .ok (.bipush (-2), 2) := by decide +kernel
theorem dL_refusesAny_142 : decode cL_refusesAny 142 = .ok (.if_icmp .ne 117, 3) := by decide +kernel
theorem dL_refusesAny_145 : decode cL_refusesAny 145 = .ok (.aload_n 0, 1) := by decide +kernel
theorem dL_refusesAny_146 : decode cL_refusesAny 146 = .ok (.iconst 0, 1) := by decide +kernel
theorem dL_refusesAny_147 : decode cL_refusesAny 147 = .ok (.iload_n 2, 1) := by decide +kernel
theorem dL_refusesAny_148 : decode cL_refusesAny 148 = .ok (.iconst 0, 1) := by decide +kernel
theorem dL_refusesAny_149 : decode cL_refusesAny 149 = .ok (.iconst 0, 1) := by decide +kernel
theorem dL_refusesAny_150 : decode cL_refusesAny 150 = .ok (.invokevirtual 56, 3) := by decide +kernel
theorem dL_refusesAny_153 : decode cL_refusesAny 153 = .ok (.bipush (-2), 2) := by decide +kernel
theorem dL_refusesAny_155 : decode cL_refusesAny 155 = .ok (.if_icmp .ne 104, 3) := by decide +kernel
theorem dL_refusesAny_158 : decode cL_refusesAny 158 = .ok (.aload_n 0, 1) := by decide +kernel
theorem dL_refusesAny_159 : decode cL_refusesAny 159 = .ok (.iconst 0, 1) := by decide +kernel
theorem dL_refusesAny_160 : decode cL_refusesAny 160 = .ok (.iconst 0, 1) := by decide +kernel
theorem dL_refusesAny_161 : decode cL_refusesAny 161 = .ok (.iload_n 3, 1) := by decide +kernel
theorem dL_refusesAny_162 : decode cL_refusesAny 162 = .ok (.iconst 0, 1) := by decide +kernel
theorem dL_refusesAny_163 : decode cL_refusesAny 163 = .ok (.invokevirtual 56, 3) := by decide +kernel
theorem dL_refusesAny_166 : decode cL_refusesAny 166 = .ok (.bipush (-2), 2) := by decide +kernel
theorem dL_refusesAny_168 : decode cL_refusesAny 168 = .ok (.if_icmp .ne 91, 3) := by decide +kernel
theorem dL_refusesAny_171 : decode cL_refusesAny 171 = .ok (.aload_n 0, 1) := by decide +kernel
theorem dL_refusesAny_172 : decode cL_refusesAny 172 = .ok (.iconst 0, 1) := by decide +kernel
theorem dL_refusesAny_173 : decode cL_refusesAny 173 = .ok (.iconst 0, 1) := by decide +kernel
theorem dL_refusesAny_174 : decode cL_refusesAny 174 = .ok (.iconst 0, 1) := by decide +kernel
theorem dL_refusesAny_175 : decode cL_refusesAny 175 = .ok (.iload 4, 2) := by decide +kernel
theorem dL_refusesAny_177 : decode cL_refusesAny 177 = .ok (.invokevirtual 56, 3) := by decide +kernel
theorem dL_refusesAny_180 : decode cL_refusesAny 180 = .ok (.bipush (-2), 2) := by decide +kernel
theorem dL_refusesAny_182 : decode cL_refusesAny 182 = .ok (.if_icmp .ne 77, 3) := by decide +kernel
theorem dL_refusesAny_185 : decode cL_refusesAny 185 = .ok (.aload_n 0, 1) := by decide +kernel
theorem dL_refusesAny_186 : decode cL_refusesAny 186 = .ok (.iload_n 2, 1) := by decide +kernel
theorem dL_refusesAny_187 : decode cL_refusesAny 187 = .ok (.sipush 255, 3) := by decide +kernel
theorem dL_refusesAny_190 : decode cL_refusesAny 190 = .ok (.iconst 0, 1) := by decide +kernel
theorem dL_refusesAny_191 : decode cL_refusesAny 191 = .ok (.iconst 0, 1) := by decide +kernel
theorem dL_refusesAny_192 : decode cL_refusesAny 192 = .ok (.invokevirtual 60, 3) := by decide +kernel
theorem dL_refusesAny_195 : decode cL_refusesAny 195 = .ok (.bipush (-2), 2) := by decide +kernel
theorem dL_refusesAny_197 : decode cL_refusesAny 197 = .ok (.if_icmp .ne 62, 3) := by decide +kernel
theorem dL_refusesAny_200 : decode cL_refusesAny 200 = .ok (.aload_n 0, 1) := by decide +kernel
theorem dL_refusesAny_201 : decode cL_refusesAny 201 = .ok (.iconst 0, 1) := by decide +kernel
theorem dL_refusesAny_202 : decode cL_refusesAny 202 = .ok (.iload_n 2, 1) := by decide +kernel
theorem dL_refusesAny_203 : decode cL_refusesAny 203 = .ok (.iconst 0, 1) := by decide +kernel
theorem dL_refusesAny_204 : decode cL_refusesAny 204 = .ok (.iconst 0, 1) := by decide +kernel
theorem dL_refusesAny_205 : decode cL_refusesAny 205 = .ok (.invokevirtual 60, 3) := by decide +kernel
theorem dL_refusesAny_208 : decode cL_refusesAny 208 = .ok (.bipush (-2), 2) := by decide +kernel
theorem dL_refusesAny_210 : decode cL_refusesAny 210 = .ok (.if_icmp .ne 49, 3) := by decide +kernel
theorem dL_refusesAny_213 : decode cL_refusesAny 213 = .ok (.aload_n 0, 1) := by decide +kernel
theorem dL_refusesAny_214 : decode cL_refusesAny 214 = .ok (.bipush 9, 2) := by decide +kernel
theorem dL_refusesAny_216 : decode cL_refusesAny 216 = .ok (.bipush 8, 2) := by decide +kernel
theorem dL_refusesAny_218 : decode cL_refusesAny 218 = .ok (.iconst 0, 1) := by decide +kernel
theorem dL_refusesAny_219 : decode cL_refusesAny 219 = .ok (.iconst 0, 1) := by decide +kernel
theorem dL_refusesAny_220 : decode cL_refusesAny 220 = .ok (.invokevirtual 60, 3) := by decide +kernel
theorem dL_refusesAny_223 : decode cL_refusesAny 223 = .ok (.bipush (-2), 2) := by decide +kernel
theorem dL_refusesAny_225 : decode cL_refusesAny 225 = .ok (.if_icmp .ne 34, 3) := by decide +kernel
theorem dL_refusesAny_228 : decode cL_refusesAny 228 = .ok (.aload_n 0, 1) := by decide +kernel
theorem dL_refusesAny_229 : decode cL_refusesAny 229 = .ok (.iconst 0, 1) := by decide +kernel
theorem dL_refusesAny_230 : decode cL_refusesAny 230 = .ok (.iconst 1, 1) := by decide +kernel
theorem dL_refusesAny_231 : decode cL_refusesAny 231 = .ok (.iload_n 3, 1) := by decide +kernel
theorem dL_refusesAny_232 : decode cL_refusesAny 232 = .ok (.iconst 0, 1) := by decide +kernel
theorem dL_refusesAny_233 : decode cL_refusesAny 233 = .ok (.invokevirtual 60, 3) := by decide +kernel
theorem dL_refusesAny_236 : decode cL_refusesAny 236 = .ok (.bipush (-2), 2) := by decide +kernel
theorem dL_refusesAny_238 : decode cL_refusesAny 238 = .ok (.if_icmp .ne 21, 3) := by decide +kernel
theorem dL_refusesAny_241 : decode cL_refusesAny 241 = .ok (.aload_n 0, 1) := by decide +kernel
theorem dL_refusesAny_242 : decode cL_refusesAny 242 = .ok (.iconst 0, 1) := by decide +kernel
theorem dL_refusesAny_243 : decode cL_refusesAny 243 = .ok (.iconst 1, 1) := by decide +kernel
theorem dL_refusesAny_244 : decode cL_refusesAny 244 = .ok (.iconst 0, 1) := by decide +kernel
theorem dL_refusesAny_245 : decode cL_refusesAny 245 = .ok (.iload 4, 2) := by decide +kernel
theorem dL_refusesAny_247 : decode cL_refusesAny 247 = .ok (.invokevirtual 60, 3) := by decide +kernel
theorem dL_refusesAny_250 : decode cL_refusesAny 250 = .ok (.bipush (-2), 2) := by decide +kernel
theorem dL_refusesAny_252 : decode cL_refusesAny 252 = .ok (.if_icmp .ne 7, 3) := by decide +kernel
theorem dL_refusesAny_255 : decode cL_refusesAny 255 = .ok (.iconst 1, 1) := by decide +kernel
theorem dL_refusesAny_256 : decode cL_refusesAny 256 = .ok (.goto 4, 3) := by decide +kernel
theorem dL_refusesAny_259 : decode cL_refusesAny 259 = .ok (.iconst 0, 1) := by decide +kernel
theorem dL_refusesAny_260 : decode cL_refusesAny 260 = .ok (.istore 7, 2) := by decide +kernel
theorem dL_refusesAny_262 : decode cL_refusesAny 262 = .ok (.iload 7, 2) := by decide +kernel
theorem dL_refusesAny_264 : decode cL_refusesAny 264 = .ok (.ifCond .eq 148, 3) := by decide +kernel
theorem dL_refusesAny_267 : decode cL_refusesAny 267 = .ok (.aload_n 0, 1) := by decide +kernel
theorem dL_refusesAny_268 : decode cL_refusesAny 268 = .ok (.iload 5, 2) := by decide +kernel
theorem dL_refusesAny_270 : decode cL_refusesAny 270 = .ok (.invokevirtual 63, 3) := by decide +kernel
theorem dL_refusesAny_273 : decode cL_refusesAny 273 = .ok (.iconst (-1), 1) := by decide +kernel
theorem dL_refusesAny_274 : decode cL_refusesAny 274 = .ok (.if_icmp .ne 138, 3) := by decide +kernel
theorem dL_refusesAny_277 : decode cL_refusesAny 277 = .ok (.aload_n 0, 1) := by decide +kernel
theorem dL_refusesAny_278 : decode cL_refusesAny 278 = .ok (.iload_n 1, 1) := by decide +kernel
theorem dL_refusesAny_279 : decode cL_refusesAny 279 = .ok (.iconst 2, 1) := by decide +kernel
theorem dL_refusesAny_280 : decode cL_refusesAny 280 = .ok (.irem, 1) := by decide +kernel
theorem dL_refusesAny_281 : decode cL_refusesAny 281 = .ok (.ifCond .ne 7, 3) := by decide +kernel
theorem dL_refusesAny_284 : decode cL_refusesAny 284 = .ok (.iconst (-1), 1) := by decide +kernel
theorem dL_refusesAny_285 : decode cL_refusesAny 285 = .ok (.goto 4, 3) := by decide +kernel
theorem dL_refusesAny_288 : decode cL_refusesAny 288 = .ok (.iconst 3, 1) := by decide +kernel
theorem dL_refusesAny_289 : decode cL_refusesAny 289 = .ok (.invokevirtual 66, 3) := by decide +kernel
theorem dL_refusesAny_292 : decode cL_refusesAny 292 = .ok (.bipush (-2), 2) := by decide +kernel
theorem dL_refusesAny_294 : decode cL_refusesAny 294 = .ok (.if_icmp .ne 118, 3) := by decide +kernel
theorem dL_refusesAny_297 : decode cL_refusesAny 297 = .ok (.aload_n 0, 1) := by decide +kernel
theorem dL_refusesAny_298 : decode cL_refusesAny 298 = .ok (.aload_n 0, 1) := by decide +kernel
theorem dL_refusesAny_299 : decode cL_refusesAny 299 = .ok (.iconst 3, 1) := by decide +kernel
theorem dL_refusesAny_300 : decode cL_refusesAny 300 = .ok (.invokevirtual 13, 3) := by decide +kernel
theorem dL_refusesAny_303 : decode cL_refusesAny 303 = .ok (.invokevirtual 66, 3) := by decide +kernel
theorem dL_refusesAny_306 : decode cL_refusesAny 306 = .ok (.bipush (-4), 2) := by decide +kernel
theorem dL_refusesAny_308 : decode cL_refusesAny 308 = .ok (.if_icmp .ne 104, 3) := by decide +kernel
theorem dL_refusesAny_311 : decode cL_refusesAny 311 = .ok (.aload_n 0, 1) := by decide +kernel
theorem dL_refusesAny_312 : decode cL_refusesAny 312 = .ok (.iload_n 2, 1) := by decide +kernel
theorem dL_refusesAny_313 : decode cL_refusesAny 313 = .ok (.invokevirtual 69, 3) := by decide +kernel
theorem dL_refusesAny_316 : decode cL_refusesAny 316 = .ok (.bipush (-2), 2) := by decide +kernel
theorem dL_refusesAny_318 : decode cL_refusesAny 318 = .ok (.if_icmp .ne 94, 3) := by decide +kernel
theorem dL_refusesAny_321 : decode cL_refusesAny 321 = .ok (.aload_n 0, 1) := by decide +kernel
theorem dL_refusesAny_322 : decode cL_refusesAny 322 = .ok (.iload_n 2, 1) := by decide +kernel
theorem dL_refusesAny_323 : decode cL_refusesAny 323 = .ok (.invokevirtual 50, 3) := by decide +kernel
theorem dL_refusesAny_326 : decode cL_refusesAny 326 = .ok (.bipush (-2), 2) := by decide +kernel
theorem dL_refusesAny_328 : decode cL_refusesAny 328 = .ok (.if_icmp .ne 84, 3) := by decide +kernel
theorem dL_refusesAny_331 : decode cL_refusesAny 331 = .ok (.aload_n 0, 1) := by decide +kernel
theorem dL_refusesAny_332 : decode cL_refusesAny 332 = .ok (.iload_n 2, 1) := by decide +kernel
theorem dL_refusesAny_333 : decode cL_refusesAny 333 = .ok (.invokevirtual 53, 3) := by decide +kernel
theorem dL_refusesAny_336 : decode cL_refusesAny 336 = .ok (.bipush (-2), 2) := by decide +kernel
theorem dL_refusesAny_338 : decode cL_refusesAny 338 = .ok (.if_icmp .ne 74, 3) := by decide +kernel
theorem dL_refusesAny_341 : decode cL_refusesAny 341 = .ok (.aload_n 0, 1) := by decide +kernel
theorem dL_refusesAny_342 : decode cL_refusesAny 342 = .ok (.iload_n 3, 1) := by decide +kernel
theorem dL_refusesAny_343 : decode cL_refusesAny 343 = .ok (.invokevirtual 72, 3) := by decide +kernel
theorem dL_refusesAny_346 : decode cL_refusesAny 346 = .ok (.bipush (-2), 2) := by decide +kernel
theorem dL_refusesAny_348 : decode cL_refusesAny 348 = .ok (.if_icmp .ne 64, 3) := by decide +kernel
theorem dL_refusesAny_351 : decode cL_refusesAny 351 = .ok (.aload_n 0, 1) := by decide +kernel
theorem dL_refusesAny_352 : decode cL_refusesAny 352 = .ok (.iload_n 2, 1) := by decide +kernel
theorem dL_refusesAny_353 : decode cL_refusesAny 353 = .ok (.sipush 255, 3) := by decide +kernel
theorem dL_refusesAny_356 : decode cL_refusesAny 356 = .ok (.invokevirtual 75, 3) := by decide +kernel
theorem dL_refusesAny_359 : decode cL_refusesAny 359 = .ok (.bipush (-2), 2) := by decide +kernel
theorem dL_refusesAny_361 : decode cL_refusesAny 361 = .ok (.if_icmp .ne 51, 3) := by decide +kernel
theorem dL_refusesAny_364 : decode cL_refusesAny 364 = .ok (.aload_n 0, 1) := by decide +kernel
theorem dL_refusesAny_365 : decode cL_refusesAny 365 = .ok (.iconst 0, 1) := by decide +kernel
theorem dL_refusesAny_366 : decode cL_refusesAny 366 = .ok (.iload_n 2, 1) := by decide +kernel
theorem dL_refusesAny_367 : decode cL_refusesAny 367 = .ok (.invokevirtual 75, 3) := by decide +kernel
theorem dL_refusesAny_370 : decode cL_refusesAny 370 = .ok (.bipush (-2), 2) := by decide +kernel
theorem dL_refusesAny_372 : decode cL_refusesAny 372 = .ok (.if_icmp .ne 40, 3) := by decide +kernel
theorem dL_refusesAny_375 : decode cL_refusesAny 375 = .ok (.aload_n 0, 1) := by decide +kernel
theorem dL_refusesAny_376 : decode cL_refusesAny 376 = .ok (.iload_n 1, 1) := by decide +kernel
theorem dL_refusesAny_377 : decode cL_refusesAny 377 = .ok (.iconst 2, 1) := by decide +kernel
theorem dL_refusesAny_378 : decode cL_refusesAny 378 = .ok (.irem, 1) := by decide +kernel
theorem dL_refusesAny_379 : decode cL_refusesAny 379 = .ok (.ifCond .ne 13, 3) := by decide +kernel
theorem dL_refusesAny_382 : decode cL_refusesAny 382 = .ok (.iconst (-1), 1) := by decide +kernel
theorem dL_refusesAny_383 : decode cL_refusesAny 383 = .ok (.iload_n 1, 1) := by decide +kernel
theorem dL_refusesAny_384 : decode cL_refusesAny 384 = .ok (.sipush 300, 3) := by decide +kernel
theorem dL_refusesAny_387 : decode cL_refusesAny 387 = .ok (.irem, 1) := by decide +kernel
theorem dL_refusesAny_388 : decode cL_refusesAny 388 = .ok (.isub, 1) := by decide +kernel
theorem dL_refusesAny_389 : decode cL_refusesAny 389 = .ok (.goto 11, 3) := by decide +kernel
theorem dL_refusesAny_392 : decode cL_refusesAny 392 = .ok (.bipush 11, 2) := by decide +kernel
theorem dL_refusesAny_394 : decode cL_refusesAny 394 = .ok (.iload_n 1, 1) := by decide +kernel
theorem dL_refusesAny_395 : decode cL_refusesAny 395 = .ok (.sipush 300, 3) := by decide +kernel
theorem dL_refusesAny_398 : decode cL_refusesAny 398 = .ok (.irem, 1) := by decide +kernel
theorem dL_refusesAny_399 : decode cL_refusesAny 399 = .ok (.iadd, 1) := by decide +kernel
theorem dL_refusesAny_400 : decode cL_refusesAny 400 = .ok (.invokevirtual 13, 3) := by decide +kernel
theorem dL_refusesAny_403 : decode cL_refusesAny 403 = .ok (.bipush (-2), 2) := by decide +kernel
theorem dL_refusesAny_405 : decode cL_refusesAny 405 = .ok (.if_icmp .ne 7, 3) := by decide +kernel
theorem dL_refusesAny_408 : decode cL_refusesAny 408 = .ok (.iconst 1, 1) := by decide +kernel
theorem dL_refusesAny_409 : decode cL_refusesAny 409 = .ok (.goto 4, 3) := by decide +kernel
theorem dL_refusesAny_412 : decode cL_refusesAny 412 = .ok (.iconst 0, 1) := by decide +kernel
theorem dL_refusesAny_413 : decode cL_refusesAny 413 = .ok (.istore 7, 2) := by decide +kernel
theorem dL_refusesAny_415 : decode cL_refusesAny 415 = .ok (.iload 7, 2) := by decide +kernel
theorem dL_refusesAny_417 : decode cL_refusesAny 417 = .ok (.ifCond .eq 156, 3) := by decide +kernel
theorem dL_refusesAny_420 : decode cL_refusesAny 420 = .ok (.aload_n 0, 1) := by decide +kernel
theorem dL_refusesAny_421 : decode cL_refusesAny 421 = .ok (.iload 6, 2) := by decide +kernel
theorem dL_refusesAny_423 : decode cL_refusesAny 423 = .ok (.invokevirtual 19, 3) := by decide +kernel
theorem dL_refusesAny_426 : decode cL_refusesAny 426 = .ok (.iconst (-1), 1) := by decide +kernel
theorem dL_refusesAny_427 : decode cL_refusesAny 427 = .ok (.if_icmp .ne 146, 3) := by decide +kernel
theorem dL_refusesAny_430 : decode cL_refusesAny 430 = .ok (.aload_n 0, 1) := by decide +kernel
theorem dL_refusesAny_431 : decode cL_refusesAny 431 = .ok (.iload 6, 2) := by decide +kernel
theorem dL_refusesAny_433 : decode cL_refusesAny 433 = .ok (.invokevirtual 22, 3) := by decide +kernel
theorem dL_refusesAny_436 : decode cL_refusesAny 436 = .ok (.iconst (-1), 1) := by decide +kernel
theorem dL_refusesAny_437 : decode cL_refusesAny 437 = .ok (.if_icmp .ne 136, 3) := by decide +kernel
theorem dL_refusesAny_440 : decode cL_refusesAny 440 = .ok (.aload_n 0, 1) := by decide +kernel
theorem dL_refusesAny_441 : decode cL_refusesAny 441 = .ok (.iload 6, 2) := by decide +kernel
theorem dL_refusesAny_443 : decode cL_refusesAny 443 = .ok (.invokevirtual 25, 3) := by decide +kernel
theorem dL_refusesAny_446 : decode cL_refusesAny 446 = .ok (.iconst (-1), 1) := by decide +kernel
theorem dL_refusesAny_447 : decode cL_refusesAny 447 = .ok (.if_icmp .ne 126, 3) := by decide +kernel
theorem dL_refusesAny_450 : decode cL_refusesAny 450 = .ok (.aload_n 0, 1) := by decide +kernel
theorem dL_refusesAny_451 : decode cL_refusesAny 451 = .ok (.iload 6, 2) := by decide +kernel
theorem dL_refusesAny_453 : decode cL_refusesAny 453 = .ok (.invokevirtual 78, 3) := by decide +kernel
theorem dL_refusesAny_456 : decode cL_refusesAny 456 = .ok (.iconst (-1), 1) := by decide +kernel
theorem dL_refusesAny_457 : decode cL_refusesAny 457 = .ok (.if_icmp .ne 116, 3) := by decide +kernel
theorem dL_refusesAny_460 : decode cL_refusesAny 460 = .ok (.aload_n 0, 1) := by decide +kernel
theorem dL_refusesAny_461 : decode cL_refusesAny 461 = .ok (.iload 6, 2) := by decide +kernel
theorem dL_refusesAny_463 : decode cL_refusesAny 463 = .ok (.invokevirtual 81, 3) := by decide +kernel
theorem dL_refusesAny_466 : decode cL_refusesAny 466 = .ok (.iconst (-1), 1) := by decide +kernel
theorem dL_refusesAny_467 : decode cL_refusesAny 467 = .ok (.if_icmp .ne 106, 3) := by decide +kernel
theorem dL_refusesAny_470 : decode cL_refusesAny 470 = .ok (.aload_n 0, 1) := by decide +kernel
theorem dL_refusesAny_471 : decode cL_refusesAny 471 = .ok (.iload 6, 2) := by decide +kernel
theorem dL_refusesAny_473 : decode cL_refusesAny 473 = .ok (.invokevirtual 47, 3) := by decide +kernel
theorem dL_refusesAny_476 : decode cL_refusesAny 476 = .ok (.iconst (-1), 1) := by decide +kernel
theorem dL_refusesAny_477 : decode cL_refusesAny 477 = .ok (.if_icmp .ne 96, 3) := by decide +kernel
theorem dL_refusesAny_480 : decode cL_refusesAny 480 = .ok (.aload_n 0, 1) := by decide +kernel
theorem dL_refusesAny_481 : decode cL_refusesAny 481 = .ok (.iload 5, 2) := by decide +kernel
theorem dL_refusesAny_483 : decode cL_refusesAny 483 = .ok (.iconst 0, 1) := by decide +kernel
theorem dL_refusesAny_484 : decode cL_refusesAny 484 = .ok (.invokevirtual 41, 3) := by decide +kernel
theorem dL_refusesAny_487 : decode cL_refusesAny 487 = .ok (.iconst (-1), 1) := by decide +kernel
theorem dL_refusesAny_488 : decode cL_refusesAny 488 = .ok (.if_icmp .ne 85, 3) := by decide +kernel
theorem dL_refusesAny_491 : decode cL_refusesAny 491 = .ok (.aload_n 0, 1) := by decide +kernel
theorem dL_refusesAny_492 : decode cL_refusesAny 492 = .ok (.iload 5, 2) := by decide +kernel
theorem dL_refusesAny_494 : decode cL_refusesAny 494 = .ok (.invokevirtual 38, 3) := by decide +kernel
theorem dL_refusesAny_497 : decode cL_refusesAny 497 = .ok (.iconst (-1), 1) := by decide +kernel
theorem dL_refusesAny_498 : decode cL_refusesAny 498 = .ok (.if_icmp .ne 75, 3) := by decide +kernel
theorem dL_refusesAny_501 : decode cL_refusesAny 501 = .ok (.aload_n 0, 1) := by decide +kernel
theorem dL_refusesAny_502 : decode cL_refusesAny 502 = .ok (.iload 5, 2) := by decide +kernel
theorem dL_refusesAny_504 : decode cL_refusesAny 504 = .ok (.invokevirtual 32, 3) := by decide +kernel
theorem dL_refusesAny_507 : decode cL_refusesAny 507 = .ok (.iconst (-1), 1) := by decide +kernel
theorem dL_refusesAny_508 : decode cL_refusesAny 508 = .ok (.if_icmp .ne 65, 3) := by decide +kernel
theorem dL_refusesAny_511 : decode cL_refusesAny 511 = .ok (.aload_n 0, 1) := by decide +kernel
theorem dL_refusesAny_512 : decode cL_refusesAny 512 = .ok (.iload 5, 2) := by decide +kernel
theorem dL_refusesAny_514 : decode cL_refusesAny 514 = .ok (.invokevirtual 29, 3) := by decide +kernel
theorem dL_refusesAny_517 : decode cL_refusesAny 517 = .ok (.iconst (-1), 1) := by decide +kernel
theorem dL_refusesAny_518 : decode cL_refusesAny 518 = .ok (.if_icmp .ne 55, 3) := by decide +kernel
theorem dL_refusesAny_521 : decode cL_refusesAny 521 = .ok (.aload_n 0, 1) := by decide +kernel
theorem dL_refusesAny_522 : decode cL_refusesAny 522 = .ok (.iload 5, 2) := by decide +kernel
theorem dL_refusesAny_524 : decode cL_refusesAny 524 = .ok (.invokevirtual 35, 3) := by decide +kernel
theorem dL_refusesAny_527 : decode cL_refusesAny 527 = .ok (.iconst (-1), 1) := by decide +kernel
theorem dL_refusesAny_528 : decode cL_refusesAny 528 = .ok (.if_icmp .ne 45, 3) := by decide +kernel
theorem dL_refusesAny_531 : decode cL_refusesAny 531 = .ok (.aload_n 0, 1) := by decide +kernel
theorem dL_refusesAny_532 : decode cL_refusesAny 532 = .ok (.iload_n 1, 1) := by decide +kernel
theorem dL_refusesAny_533 : decode cL_refusesAny 533 = .ok (.iconst 2, 1) := by decide +kernel
theorem dL_refusesAny_534 : decode cL_refusesAny 534 = .ok (.irem, 1) := by decide +kernel
theorem dL_refusesAny_535 : decode cL_refusesAny 535 = .ok (.ifCond .ne 7, 3) := by decide +kernel
theorem dL_refusesAny_538 : decode cL_refusesAny 538 = .ok (.iconst (-1), 1) := by decide +kernel
theorem dL_refusesAny_539 : decode cL_refusesAny 539 = .ok (.goto 4, 3) := by decide +kernel
theorem dL_refusesAny_542 : decode cL_refusesAny 542 = .ok (.iconst 4, 1) := by decide +kernel
theorem dL_refusesAny_543 : decode cL_refusesAny 543 = .ok (.invokevirtual 84, 3) := by decide +kernel
theorem dL_refusesAny_546 : decode cL_refusesAny 546 = .ok (.iconst (-1), 1) := by decide +kernel
theorem dL_refusesAny_547 : decode cL_refusesAny 547 = .ok (.if_icmp .ne 26, 3) := by decide +kernel
theorem dL_refusesAny_550 : decode cL_refusesAny 550 = .ok (.aload_n 0, 1) := by decide +kernel
theorem dL_refusesAny_551 : decode cL_refusesAny 551 = .ok (.iload_n 1, 1) := by decide +kernel
theorem dL_refusesAny_552 : decode cL_refusesAny 552 = .ok (.iconst 2, 1) := by decide +kernel
theorem dL_refusesAny_553 : decode cL_refusesAny 553 = .ok (.irem, 1) := by decide +kernel
theorem dL_refusesAny_554 : decode cL_refusesAny 554 = .ok (.ifCond .ne 7, 3) := by decide +kernel
theorem dL_refusesAny_557 : decode cL_refusesAny 557 = .ok (.iconst (-1), 1) := by decide +kernel
theorem dL_refusesAny_558 : decode cL_refusesAny 558 = .ok (.goto 4, 3) := by decide +kernel
theorem dL_refusesAny_561 : decode cL_refusesAny 561 = .ok (.iconst 4, 1) := by decide +kernel
theorem dL_refusesAny_562 : decode cL_refusesAny 562 = .ok (.invokevirtual 87, 3) := by decide +kernel
theorem dL_refusesAny_565 : decode cL_refusesAny 565 = .ok (.iconst (-1), 1) := by decide +kernel
theorem dL_refusesAny_566 : decode cL_refusesAny 566 = .ok (.if_icmp .ne 7, 3) := by decide +kernel
theorem dL_refusesAny_569 : decode cL_refusesAny 569 = .ok (.iconst 1, 1) := by decide +kernel
theorem dL_refusesAny_570 : decode cL_refusesAny 570 = .ok (.goto 4, 3) := by decide +kernel
theorem dL_refusesAny_573 : decode cL_refusesAny 573 = .ok (.iconst 0, 1) := by decide +kernel
theorem dL_refusesAny_574 : decode cL_refusesAny 574 = .ok (.istore 7, 2) := by decide +kernel
theorem dL_refusesAny_576 : decode cL_refusesAny 576 = .ok (.iload 7, 2) := by decide +kernel
theorem dL_refusesAny_578 : decode cL_refusesAny 578 = .ok (.ifCond .eq 55, 3) := by decide +kernel
theorem dL_refusesAny_581 : decode cL_refusesAny 581 = .ok (.aload_n 0, 1) := by decide +kernel
theorem dL_refusesAny_582 : decode cL_refusesAny 582 = .ok (.iconst 0, 1) := by decide +kernel
theorem dL_refusesAny_583 : decode cL_refusesAny 583 = .ok (.invokevirtual 13, 3) := by decide +kernel
theorem dL_refusesAny_586 : decode cL_refusesAny 586 = .ok (.bipush 32, 2) := by decide +kernel
theorem dL_refusesAny_588 : decode cL_refusesAny 588 = .ok (.if_icmp .lt 41, 3) := by decide +kernel
theorem dL_refusesAny_591 : decode cL_refusesAny 591 = .ok (.aload_n 0, 1) := by decide +kernel
theorem dL_refusesAny_592 : decode cL_refusesAny 592 = .ok (.iconst 0, 1) := by decide +kernel
theorem dL_refusesAny_593 : decode cL_refusesAny 593 = .ok (.iconst 0, 1) := by decide +kernel
theorem dL_refusesAny_594 : decode cL_refusesAny 594 = .ok (.iconst 0, 1) := by decide +kernel
theorem dL_refusesAny_595 : decode cL_refusesAny 595 = .ok (.iconst 0, 1) := by decide +kernel
theorem dL_refusesAny_596 : decode cL_refusesAny 596 = .ok (.invokevirtual 56, 3) := by decide +kernel
theorem dL_refusesAny_599 : decode cL_refusesAny 599 = .ok (.bipush (-3), 2) := by decide +kernel
theorem dL_refusesAny_601 : decode cL_refusesAny 601 = .ok (.if_icmp .ne 32, 3) := by decide +kernel
theorem dL_refusesAny_604 : decode cL_refusesAny 604 = .ok (.aload_n 0, 1) := by decide +kernel
theorem dL_refusesAny_605 : decode cL_refusesAny 605 = .ok (.iconst 0, 1) := by decide +kernel
theorem dL_refusesAny_606 : decode cL_refusesAny 606 = .ok (.iconst 0, 1) := by decide +kernel
theorem dL_refusesAny_607 : decode cL_refusesAny 607 = .ok (.bipush 99, 2) := by decide +kernel
theorem dL_refusesAny_609 : decode cL_refusesAny 609 = .ok (.bipush 9, 2) := by decide +kernel
theorem dL_refusesAny_611 : decode cL_refusesAny 611 = .ok (.invokevirtual 60, 3) := by decide +kernel
theorem dL_refusesAny_614 : decode cL_refusesAny 614 = .ok (.bipush (-3), 2) := by decide +kernel
theorem dL_refusesAny_616 : decode cL_refusesAny 616 = .ok (.if_icmp .ne 17, 3) := by decide +kernel
theorem dL_refusesAny_619 : decode cL_refusesAny 619 = .ok (.aload_n 0, 1) := by decide +kernel
theorem dL_refusesAny_620 : decode cL_refusesAny 620 = .ok (.iconst 0, 1) := by decide +kernel
theorem dL_refusesAny_621 : decode cL_refusesAny 621 = .ok (.invokevirtual 72, 3) := by decide +kernel
theorem dL_refusesAny_624 : decode cL_refusesAny 624 = .ok (.bipush (-3), 2) := by decide +kernel
theorem dL_refusesAny_626 : decode cL_refusesAny 626 = .ok (.if_icmp .ne 7, 3) := by decide +kernel
theorem dL_refusesAny_629 : decode cL_refusesAny 629 = .ok (.iconst 1, 1) := by decide +kernel
theorem dL_refusesAny_630 : decode cL_refusesAny 630 = .ok (.goto 4, 3) := by decide +kernel
theorem dL_refusesAny_633 : decode cL_refusesAny 633 = .ok (.iconst 0, 1) := by decide +kernel
theorem dL_refusesAny_634 : decode cL_refusesAny 634 = .ok (.ireturn, 1) := by decide +kernel
end
section
theorem dL_refuses_0 : decode cL_refuses 0 = .ok (.aload_n 0, 1) := by decide +kernel
theorem dL_refuses_1 : decode cL_refuses 1 = .ok (.invokestatic 90, 3) := by decide +kernel
theorem dL_refuses_4 : decode cL_refuses 4 = .ok (.lstore_n 2, 1) := by decide +kernel
theorem dL_refuses_5 : decode cL_refuses 5 = .ok (.aload_n 0, 1) := by decide +kernel
theorem dL_refuses_6 : decode cL_refuses 6 = .ok (.bipush 9, 2) := by decide +kernel
theorem dL_refuses_8 : decode cL_refuses 8 = .ok (.invokevirtual 13, 3) := by decide +kernel
theorem dL_refuses_11 : decode cL_refuses 11 = .ok (.istore 4, 2) := by decide +kernel
theorem dL_refuses_13 : decode cL_refuses 13 = .ok (.aload_n 0, 1) := by decide +kernel
theorem dL_refuses_14 : decode cL_refuses 14 = .ok (.iload_n 1, 1) := by decide +kernel
theorem dL_refuses_15 : decode cL_refuses 15 = .ok (.invokestatic 94, 3) := by decide +kernel
theorem dL_refuses_18 : decode cL_refuses 18 = .ok (.ifCond .eq 27, 3) := by decide +kernel
theorem dL_refuses_21 : decode cL_refuses 21 = .ok (.aload_n 0, 1) := by decide +kernel
theorem dL_refuses_22 : decode cL_refuses 22 = .ok (.invokestatic 90, 3) := by decide +kernel
theorem dL_refuses_25 : decode cL_refuses 25 = .ok (.lload_n 2, 1) := by decide +kernel
theorem dL_refuses_26 : decode cL_refuses 26 = .ok (.lcmp, 1) := by decide +kernel
theorem dL_refuses_27 : decode cL_refuses 27 = .ok (.ifCond .ne 18, 3) := by decide +kernel
theorem dL_refuses_30 : decode cL_refuses 30 = .ok (.aload_n 0, 1) := by decide +kernel
theorem dL_refuses_31 : decode cL_refuses 31 = .ok (.bipush 9, 2) := by decide +kernel
theorem dL_refuses_33 : decode cL_refuses 33 = .ok (.invokevirtual 13, 3) := by decide +kernel
theorem dL_refuses_36 : decode cL_refuses 36 = .ok (.iload 4, 2) := by decide +kernel
theorem dL_refuses_38 : decode cL_refuses 38 = .ok (.if_icmp .ne 7, 3) := by decide +kernel
theorem dL_refuses_41 : decode cL_refuses 41 = .ok (.iconst 1, 1) := by decide +kernel
theorem dL_refuses_42 : decode cL_refuses 42 = .ok (.goto 4, 3) := by decide +kernel
theorem dL_refuses_45 : decode cL_refuses 45 = .ok (.iconst 0, 1) := by decide +kernel
theorem dL_refuses_46 : decode cL_refuses 46 = .ok (.ireturn, 1) := by decide +kernel
theorem dL_adds_0 : decode cL_adds 0 = .ok (.iload_n 1, 1) := by decide +kernel
theorem dL_adds_1 : decode cL_adds 1 = .ok (.iconst 5, 1) := by decide +kernel
theorem dL_adds_2 : decode cL_adds 2 = .ok (.irem, 1) := by decide +kernel
theorem dL_adds_3 : decode cL_adds 3 = .ok (.bipush 20, 2) := by decide +kernel
theorem dL_adds_5 : decode cL_adds 5 = .ok (.imul, 1) := by decide +kernel
theorem dL_adds_6 : decode cL_adds 6 = .ok (.istore_n 2, 1) := by decide +kernel
theorem dL_adds_7 : decode cL_adds 7 = .ok (.aload_n 0, 1) := by decide +kernel
theorem dL_adds_8 : decode cL_adds 8 = .ok (.iconst 0, 1) := by decide +kernel
theorem dL_adds_9 : decode cL_adds 9 = .ok (.invokevirtual 13, 3) := by decide +kernel
theorem dL_adds_12 : decode cL_adds 12 = .ok (.istore_n 3, 1) := by decide +kernel
theorem dL_adds_13 : decode cL_adds 13 = .ok (.aload_n 0, 1) := by decide +kernel
theorem dL_adds_14 : decode cL_adds 14 = .ok (.iconst 4, 1) := by decide +kernel
theorem dL_adds_15 : decode cL_adds 15 = .ok (.invokevirtual 13, 3) := by decide +kernel
theorem dL_adds_18 : decode cL_adds 18 = .ok (.istore 4, 2) := by decide +kernel
theorem dL_adds_20 : decode cL_adds 20 = .ok (.aload_n 0, 1) := by decide +kernel
theorem dL_adds_21 : decode cL_adds 21 = .ok (.iload_n 2, 1) := by decide +kernel
theorem dL_adds_22 : decode cL_adds 22 = .ok (.invokevirtual 72, 3) := by decide +kernel
theorem dL_adds_25 : decode cL_adds 25 = .ok (.istore 5, 2) := by decide +kernel
theorem dL_adds_27 : decode cL_adds 27 = .ok (.aload_n 0, 1) := by decide +kernel
theorem dL_adds_28 : decode cL_adds 28 = .ok (.iload_n 1, 1) := by decide +kernel
theorem dL_adds_29 : decode cL_adds 29 = .ok (.iconst 3, 1) := by decide +kernel
theorem dL_adds_30 : decode cL_adds 30 = .ok (.ishr, 1) := by decide +kernel
theorem dL_adds_31 : decode cL_adds 31 = .ok (.sipush 255, 3) := by decide +kernel
theorem dL_adds_34 : decode cL_adds 34 = .ok (.iand, 1) := by decide +kernel
theorem dL_adds_35 : decode cL_adds 35 = .ok (.sipush 255, 3) := by decide +kernel
theorem dL_adds_38 : decode cL_adds 38 = .ok (.iload_n 1, 1) := by decide +kernel
theorem dL_adds_39 : decode cL_adds 39 = .ok (.bipush 11, 2) := by decide +kernel
theorem dL_adds_41 : decode cL_adds 41 = .ok (.ishr, 1) := by decide +kernel
theorem dL_adds_42 : decode cL_adds 42 = .ok (.bipush 9, 2) := by decide +kernel
theorem dL_adds_44 : decode cL_adds 44 = .ok (.irem, 1) := by decide +kernel
theorem dL_adds_45 : decode cL_adds 45 = .ok (.ishl, 1) := by decide +kernel
theorem dL_adds_46 : decode cL_adds 46 = .ok (.sipush 255, 3) := by decide +kernel
theorem dL_adds_49 : decode cL_adds 49 = .ok (.iand, 1) := by decide +kernel
theorem dL_adds_50 : decode cL_adds 50 = .ok (.iload_n 2, 1) := by decide +kernel
theorem dL_adds_51 : decode cL_adds 51 = .ok (.iload_n 1, 1) := by decide +kernel
theorem dL_adds_52 : decode cL_adds 52 = .ok (.bipush 15, 2) := by decide +kernel
theorem dL_adds_54 : decode cL_adds 54 = .ok (.ishr, 1) := by decide +kernel
theorem dL_adds_55 : decode cL_adds 55 = .ok (.bipush 10, 2) := by decide +kernel
theorem dL_adds_57 : decode cL_adds 57 = .ok (.irem, 1) := by decide +kernel
theorem dL_adds_58 : decode cL_adds 58 = .ok (.invokevirtual 56, 3) := by decide +kernel
theorem dL_adds_61 : decode cL_adds 61 = .ok (.istore 6, 2) := by decide +kernel
theorem dL_adds_63 : decode cL_adds 63 = .ok (.iload_n 3, 1) := by decide +kernel
theorem dL_adds_64 : decode cL_adds 64 = .ok (.bipush 32, 2) := by decide +kernel
theorem dL_adds_66 : decode cL_adds 66 = .ok (.if_icmp .ne 25, 3) := by decide +kernel
theorem dL_adds_69 : decode cL_adds 69 = .ok (.iload 5, 2) := by decide +kernel
theorem dL_adds_71 : decode cL_adds 71 = .ok (.bipush (-3), 2) := by decide +kernel
theorem dL_adds_73 : decode cL_adds 73 = .ok (.if_icmp .ne 15, 3) := by decide +kernel
theorem dL_adds_76 : decode cL_adds 76 = .ok (.iload 6, 2) := by decide +kernel
theorem dL_adds_78 : decode cL_adds 78 = .ok (.bipush (-3), 2) := by decide +kernel
theorem dL_adds_80 : decode cL_adds 80 = .ok (.if_icmp .ne 8, 3) := by decide +kernel
theorem dL_adds_83 : decode cL_adds 83 = .ok (.bipush (-3), 2) := by decide +kernel
theorem dL_adds_85 : decode cL_adds 85 = .ok (.goto 5, 3) := by decide +kernel
theorem dL_adds_88 : decode cL_adds 88 = .ok (.bipush (-9), 2) := by decide +kernel
theorem dL_adds_90 : decode cL_adds 90 = .ok (.ireturn, 1) := by decide +kernel
theorem dL_adds_91 : decode cL_adds 91 = .ok (.iload 5, 2) := by decide +kernel
theorem dL_adds_93 : decode cL_adds 93 = .ok (.ifCond .lt 80, 3) := by decide +kernel
theorem dL_adds_96 : decode cL_adds 96 = .ok (.iload 5, 2) := by decide +kernel
theorem dL_adds_98 : decode cL_adds 98 = .ok (.bipush 32, 2) := by decide +kernel
theorem dL_adds_100 : decode cL_adds 100 = .ok (.if_icmp .ge 73, 3) := by decide +kernel
theorem dL_adds_103 : decode cL_adds 103 = .ok (.aload_n 0, 1) := by decide +kernel
theorem dL_adds_104 : decode cL_adds 104 = .ok (.iconst 4, 1) := by decide +kernel
theorem dL_adds_105 : decode cL_adds 105 = .ok (.invokevirtual 13, 3) := by decide +kernel
theorem dL_adds_108 : decode cL_adds 108 = .ok (.iload 4, 2) := by decide +kernel
theorem dL_adds_110 : decode cL_adds 110 = .ok (.iload 5, 2) := by decide +kernel
theorem dL_adds_112 : decode cL_adds 112 = .ok (.iadd, 1) := by decide +kernel
theorem dL_adds_113 : decode cL_adds 113 = .ok (.if_icmp .ne 60, 3) := by decide +kernel
theorem dL_adds_116 : decode cL_adds 116 = .ok (.aload_n 0, 1) := by decide +kernel
theorem dL_adds_117 : decode cL_adds 117 = .ok (.iconst 0, 1) := by decide +kernel
theorem dL_adds_118 : decode cL_adds 118 = .ok (.invokevirtual 13, 3) := by decide +kernel
theorem dL_adds_121 : decode cL_adds 121 = .ok (.iload_n 3, 1) := by decide +kernel
theorem dL_adds_122 : decode cL_adds 122 = .ok (.iconst 1, 1) := by decide +kernel
theorem dL_adds_123 : decode cL_adds 123 = .ok (.iadd, 1) := by decide +kernel
theorem dL_adds_124 : decode cL_adds 124 = .ok (.if_icmp .ne 49, 3) := by decide +kernel
theorem dL_adds_127 : decode cL_adds 127 = .ok (.iload 6, 2) := by decide +kernel
theorem dL_adds_129 : decode cL_adds 129 = .ok (.aload_n 0, 1) := by decide +kernel
theorem dL_adds_130 : decode cL_adds 130 = .ok (.iconst 2, 1) := by decide +kernel
theorem dL_adds_131 : decode cL_adds 131 = .ok (.invokevirtual 13, 3) := by decide +kernel
theorem dL_adds_134 : decode cL_adds 134 = .ok (.iconst 1, 1) := by decide +kernel
theorem dL_adds_135 : decode cL_adds 135 = .ok (.isub, 1) := by decide +kernel
theorem dL_adds_136 : decode cL_adds 136 = .ok (.if_icmp .ne 37, 3) := by decide +kernel
theorem dL_adds_139 : decode cL_adds 139 = .ok (.aload_n 0, 1) := by decide +kernel
theorem dL_adds_140 : decode cL_adds 140 = .ok (.iload 6, 2) := by decide +kernel
theorem dL_adds_142 : decode cL_adds 142 = .ok (.invokevirtual 38, 3) := by decide +kernel
theorem dL_adds_145 : decode cL_adds 145 = .ok (.iconst 1, 1) := by decide +kernel
theorem dL_adds_146 : decode cL_adds 146 = .ok (.if_icmp .ne 27, 3) := by decide +kernel
theorem dL_adds_149 : decode cL_adds 149 = .ok (.aload_n 0, 1) := by decide +kernel
theorem dL_adds_150 : decode cL_adds 150 = .ok (.iload 6, 2) := by decide +kernel
theorem dL_adds_152 : decode cL_adds 152 = .ok (.invokevirtual 32, 3) := by decide +kernel
theorem dL_adds_155 : decode cL_adds 155 = .ok (.iload_n 2, 1) := by decide +kernel
theorem dL_adds_156 : decode cL_adds 156 = .ok (.if_icmp .ne 17, 3) := by decide +kernel
theorem dL_adds_159 : decode cL_adds 159 = .ok (.aload_n 0, 1) := by decide +kernel
theorem dL_adds_160 : decode cL_adds 160 = .ok (.iload 6, 2) := by decide +kernel
theorem dL_adds_162 : decode cL_adds 162 = .ok (.invokevirtual 35, 3) := by decide +kernel
theorem dL_adds_165 : decode cL_adds 165 = .ok (.ifCond .ne 8, 3) := by decide +kernel
theorem dL_adds_168 : decode cL_adds 168 = .ok (.iload 6, 2) := by decide +kernel
theorem dL_adds_170 : decode cL_adds 170 = .ok (.goto 5, 3) := by decide +kernel
theorem dL_adds_173 : decode cL_adds 173 = .ok (.bipush (-9), 2) := by decide +kernel
theorem dL_adds_175 : decode cL_adds 175 = .ok (.ireturn, 1) := by decide +kernel
theorem dL_addsRange_0 : decode cL_addsRange 0 = .ok (.iload_n 1, 1) := by decide +kernel
theorem dL_addsRange_1 : decode cL_addsRange 1 = .ok (.sipush 255, 3) := by decide +kernel
theorem dL_addsRange_4 : decode cL_addsRange 4 = .ok (.iand, 1) := by decide +kernel
theorem dL_addsRange_5 : decode cL_addsRange 5 = .ok (.istore_n 2, 1) := by decide +kernel
theorem dL_addsRange_6 : decode cL_addsRange 6 = .ok (.iload_n 2, 1) := by decide +kernel
theorem dL_addsRange_7 : decode cL_addsRange 7 = .ok (.iload_n 1, 1) := by decide +kernel
theorem dL_addsRange_8 : decode cL_addsRange 8 = .ok (.bipush 8, 2) := by decide +kernel
theorem dL_addsRange_10 : decode cL_addsRange 10 = .ok (.ishr, 1) := by decide +kernel
theorem dL_addsRange_11 : decode cL_addsRange 11 = .ok (.bipush 40, 2) := by decide +kernel
theorem dL_addsRange_13 : decode cL_addsRange 13 = .ok (.irem, 1) := by decide +kernel
theorem dL_addsRange_14 : decode cL_addsRange 14 = .ok (.sipush 256, 3) := by decide +kernel
theorem dL_addsRange_17 : decode cL_addsRange 17 = .ok (.iload_n 2, 1) := by decide +kernel
theorem dL_addsRange_18 : decode cL_addsRange 18 = .ok (.isub, 1) := by decide +kernel
theorem dL_addsRange_19 : decode cL_addsRange 19 = .ok (.irem, 1) := by decide +kernel
theorem dL_addsRange_20 : decode cL_addsRange 20 = .ok (.iadd, 1) := by decide +kernel
theorem dL_addsRange_21 : decode cL_addsRange 21 = .ok (.istore_n 3, 1) := by decide +kernel
theorem dL_addsRange_22 : decode cL_addsRange 22 = .ok (.aload_n 0, 1) := by decide +kernel
theorem dL_addsRange_23 : decode cL_addsRange 23 = .ok (.iload_n 2, 1) := by decide +kernel
theorem dL_addsRange_24 : decode cL_addsRange 24 = .ok (.iload_n 3, 1) := by decide +kernel
theorem dL_addsRange_25 : decode cL_addsRange 25 = .ok (.invokevirtual 75, 3) := by decide +kernel
theorem dL_addsRange_28 : decode cL_addsRange 28 = .ok (.istore 4, 2) := by decide +kernel
theorem dL_addsRange_30 : decode cL_addsRange 30 = .ok (.aload_n 0, 1) := by decide +kernel
theorem dL_addsRange_31 : decode cL_addsRange 31 = .ok (.iconst 0, 1) := by decide +kernel
theorem dL_addsRange_32 : decode cL_addsRange 32 = .ok (.invokevirtual 13, 3) := by decide +kernel
theorem dL_addsRange_35 : decode cL_addsRange 35 = .ok (.istore 5, 2) := by decide +kernel
theorem dL_addsRange_37 : decode cL_addsRange 37 = .ok (.aload_n 0, 1) := by decide +kernel
theorem dL_addsRange_38 : decode cL_addsRange 38 = .ok (.iload_n 2, 1) := by decide +kernel
theorem dL_addsRange_39 : decode cL_addsRange 39 = .ok (.iload_n 3, 1) := by decide +kernel
theorem dL_addsRange_40 : decode cL_addsRange 40 = .ok (.iload_n 1, 1) := by decide +kernel
theorem dL_addsRange_41 : decode cL_addsRange 41 = .ok (.bipush 14, 2) := by decide +kernel
theorem dL_addsRange_43 : decode cL_addsRange 43 = .ok (.ishr, 1) := by decide +kernel
theorem dL_addsRange_44 : decode cL_addsRange 44 = .ok (.iconst 5, 1) := by decide +kernel
theorem dL_addsRange_45 : decode cL_addsRange 45 = .ok (.irem, 1) := by decide +kernel
theorem dL_addsRange_46 : decode cL_addsRange 46 = .ok (.bipush 20, 2) := by decide +kernel
theorem dL_addsRange_48 : decode cL_addsRange 48 = .ok (.imul, 1) := by decide +kernel
theorem dL_addsRange_49 : decode cL_addsRange 49 = .ok (.iload_n 1, 1) := by decide +kernel
theorem dL_addsRange_50 : decode cL_addsRange 50 = .ok (.bipush 17, 2) := by decide +kernel
theorem dL_addsRange_52 : decode cL_addsRange 52 = .ok (.ishr, 1) := by decide +kernel
theorem dL_addsRange_53 : decode cL_addsRange 53 = .ok (.bipush 10, 2) := by decide +kernel
theorem dL_addsRange_55 : decode cL_addsRange 55 = .ok (.irem, 1) := by decide +kernel
theorem dL_addsRange_56 : decode cL_addsRange 56 = .ok (.invokevirtual 60, 3) := by decide +kernel
theorem dL_addsRange_59 : decode cL_addsRange 59 = .ok (.istore 6, 2) := by decide +kernel
theorem dL_addsRange_61 : decode cL_addsRange 61 = .ok (.iload 5, 2) := by decide +kernel
theorem dL_addsRange_63 : decode cL_addsRange 63 = .ok (.iload 4, 2) := by decide +kernel
theorem dL_addsRange_65 : decode cL_addsRange 65 = .ok (.iadd, 1) := by decide +kernel
theorem dL_addsRange_66 : decode cL_addsRange 66 = .ok (.bipush 32, 2) := by decide +kernel
theorem dL_addsRange_68 : decode cL_addsRange 68 = .ok (.if_icmp .le 18, 3) := by decide +kernel
theorem dL_addsRange_71 : decode cL_addsRange 71 = .ok (.iload 6, 2) := by decide +kernel
theorem dL_addsRange_73 : decode cL_addsRange 73 = .ok (.bipush (-3), 2) := by decide +kernel
theorem dL_addsRange_75 : decode cL_addsRange 75 = .ok (.if_icmp .ne 8, 3) := by decide +kernel
theorem dL_addsRange_78 : decode cL_addsRange 78 = .ok (.bipush (-3), 2) := by decide +kernel
theorem dL_addsRange_80 : decode cL_addsRange 80 = .ok (.goto 5, 3) := by decide +kernel
theorem dL_addsRange_83 : decode cL_addsRange 83 = .ok (.bipush (-9), 2) := by decide +kernel
theorem dL_addsRange_85 : decode cL_addsRange 85 = .ok (.ireturn, 1) := by decide +kernel
theorem dL_addsRange_86 : decode cL_addsRange 86 = .ok (.aload_n 0, 1) := by decide +kernel
theorem dL_addsRange_87 : decode cL_addsRange 87 = .ok (.iconst 0, 1) := by decide +kernel
theorem dL_addsRange_88 : decode cL_addsRange 88 = .ok (.invokevirtual 13, 3) := by decide +kernel
theorem dL_addsRange_91 : decode cL_addsRange 91 = .ok (.iload 5, 2) := by decide +kernel
theorem dL_addsRange_93 : decode cL_addsRange 93 = .ok (.iload 4, 2) := by decide +kernel
theorem dL_addsRange_95 : decode cL_addsRange 95 = .ok (.iadd, 1) := by decide +kernel
theorem dL_addsRange_96 : decode cL_addsRange 96 = .ok (.if_icmp .ne 31, 3) := by decide +kernel
theorem dL_addsRange_99 : decode cL_addsRange 99 = .ok (.iload 6, 2) := by decide +kernel
theorem dL_addsRange_101 : decode cL_addsRange 101 = .ok (.aload_n 0, 1) := by decide +kernel
theorem dL_addsRange_102 : decode cL_addsRange 102 = .ok (.iconst 2, 1) := by decide +kernel
theorem dL_addsRange_103 : decode cL_addsRange 103 = .ok (.invokevirtual 13, 3) := by decide +kernel
theorem dL_addsRange_106 : decode cL_addsRange 106 = .ok (.iconst 1, 1) := by decide +kernel
theorem dL_addsRange_107 : decode cL_addsRange 107 = .ok (.isub, 1) := by decide +kernel
theorem dL_addsRange_108 : decode cL_addsRange 108 = .ok (.if_icmp .ne 19, 3) := by decide +kernel
theorem dL_addsRange_111 : decode cL_addsRange 111 = .ok (.aload_n 0, 1) := by decide +kernel
theorem dL_addsRange_112 : decode cL_addsRange 112 = .ok (.iload 6, 2) := by decide +kernel
theorem dL_addsRange_114 : decode cL_addsRange 114 = .ok (.invokevirtual 38, 3) := by decide +kernel
theorem dL_addsRange_117 : decode cL_addsRange 117 = .ok (.iload 4, 2) := by decide +kernel
theorem dL_addsRange_119 : decode cL_addsRange 119 = .ok (.if_icmp .ne 8, 3) := by decide +kernel
theorem dL_addsRange_122 : decode cL_addsRange 122 = .ok (.iload 6, 2) := by decide +kernel
theorem dL_addsRange_124 : decode cL_addsRange 124 = .ok (.goto 5, 3) := by decide +kernel
theorem dL_addsRange_127 : decode cL_addsRange 127 = .ok (.bipush (-9), 2) := by decide +kernel
theorem dL_addsRange_129 : decode cL_addsRange 129 = .ok (.ireturn, 1) := by decide +kernel
theorem dL_rearranges_0 : decode cL_rearranges 0 = .ok (.aload_n 0, 1) := by decide +kernel
theorem dL_rearranges_1 : decode cL_rearranges 1 = .ok (.iconst 0, 1) := by decide +kernel
theorem dL_rearranges_2 : decode cL_rearranges 2 = .ok (.invokevirtual 13, 3) := by decide +kernel
theorem dL_rearranges_5 : decode cL_rearranges 5 = .ok (.istore_n 2, 1) := by decide +kernel
theorem dL_rearranges_6 : decode cL_rearranges 6 = .ok (.aload_n 0, 1) := by decide +kernel
theorem dL_rearranges_7 : decode cL_rearranges 7 = .ok (.iconst 4, 1) := by decide +kernel
theorem dL_rearranges_8 : decode cL_rearranges 8 = .ok (.invokevirtual 13, 3) := by decide +kernel
theorem dL_rearranges_11 : decode cL_rearranges 11 = .ok (.istore_n 3, 1) := by decide +kernel
theorem dL_rearranges_12 : decode cL_rearranges 12 = .ok (.iload_n 1, 1) := by decide +kernel
theorem dL_rearranges_13 : decode cL_rearranges 13 = .ok (.ifCond .eq 10, 3) := by decide +kernel
theorem dL_rearranges_16 : decode cL_rearranges 16 = .ok (.aload_n 0, 1) := by decide +kernel
theorem dL_rearranges_17 : decode cL_rearranges 17 = .ok (.invokevirtual 98, 3) := by decide +kernel
theorem dL_rearranges_20 : decode cL_rearranges 20 = .ok (.goto 7, 3) := by decide +kernel
theorem dL_rearranges_23 : decode cL_rearranges 23 = .ok (.aload_n 0, 1) := by decide +kernel
theorem dL_rearranges_24 : decode cL_rearranges 24 = .ok (.invokevirtual 102, 3) := by decide +kernel
theorem dL_rearranges_27 : decode cL_rearranges 27 = .ok (.istore 4, 2) := by decide +kernel
theorem dL_rearranges_29 : decode cL_rearranges 29 = .ok (.iload 4, 2) := by decide +kernel
theorem dL_rearranges_31 : decode cL_rearranges 31 = .ok (.bipush (-4), 2) := by decide +kernel
theorem dL_rearranges_33 : decode cL_rearranges 33 = .ok (.if_icmp .eq 14, 3) := by decide +kernel
theorem dL_rearranges_36 : decode cL_rearranges 36 = .ok (.iload 4, 2) := by decide +kernel
theorem dL_rearranges_38 : decode cL_rearranges 38 = .ok (.ifCond .le 13, 3) := by decide +kernel
theorem dL_rearranges_41 : decode cL_rearranges 41 = .ok (.iload 4, 2) := by decide +kernel
theorem dL_rearranges_43 : decode cL_rearranges 43 = .ok (.iload_n 2, 1) := by decide +kernel
theorem dL_rearranges_44 : decode cL_rearranges 44 = .ok (.if_icmp .gt 7, 3) := by decide +kernel
theorem dL_rearranges_47 : decode cL_rearranges 47 = .ok (.iconst 1, 1) := by decide +kernel
theorem dL_rearranges_48 : decode cL_rearranges 48 = .ok (.goto 4, 3) := by decide +kernel
theorem dL_rearranges_51 : decode cL_rearranges 51 = .ok (.iconst 0, 1) := by decide +kernel
theorem dL_rearranges_52 : decode cL_rearranges 52 = .ok (.istore 5, 2) := by decide +kernel
theorem dL_rearranges_54 : decode cL_rearranges 54 = .ok (.iconst 0, 1) := by decide +kernel
theorem dL_rearranges_55 : decode cL_rearranges 55 = .ok (.istore 6, 2) := by decide +kernel
theorem dL_rearranges_57 : decode cL_rearranges 57 = .ok (.iload 6, 2) := by decide +kernel
theorem dL_rearranges_59 : decode cL_rearranges 59 = .ok (.iload_n 2, 1) := by decide +kernel
theorem dL_rearranges_60 : decode cL_rearranges 60 = .ok (.if_icmp .ge 44, 3) := by decide +kernel
theorem dL_rearranges_63 : decode cL_rearranges 63 = .ok (.iload 5, 2) := by decide +kernel
theorem dL_rearranges_65 : decode cL_rearranges 65 = .ok (.ifCond .eq 39, 3) := by decide +kernel
theorem dL_rearranges_68 : decode cL_rearranges 68 = .ok (.aload_n 0, 1) := by decide +kernel
theorem dL_rearranges_69 : decode cL_rearranges 69 = .ok (.iload_n 1, 1) := by decide +kernel
theorem dL_rearranges_70 : decode cL_rearranges 70 = .ok (.ifCond .eq 13, 3) := by decide +kernel
theorem dL_rearranges_73 : decode cL_rearranges 73 = .ok (.bipush 32, 2) := by decide +kernel
theorem dL_rearranges_75 : decode cL_rearranges 75 = .ok (.iload 6, 2) := by decide +kernel
theorem dL_rearranges_77 : decode cL_rearranges 77 = .ok (.imul, 1) := by decide +kernel
theorem dL_rearranges_78 : decode cL_rearranges 78 = .ok (.iload_n 2, 1) := by decide +kernel
theorem dL_rearranges_79 : decode cL_rearranges 79 = .ok (.idiv, 1) := by decide +kernel
theorem dL_rearranges_80 : decode cL_rearranges 80 = .ok (.goto 5, 3) := by decide +kernel
theorem dL_rearranges_83 : decode cL_rearranges 83 = .ok (.iload 6, 2) := by decide +kernel
theorem dL_rearranges_85 : decode cL_rearranges 85 = .ok (.invokevirtual 19, 3) := by decide +kernel
theorem dL_rearranges_88 : decode cL_rearranges 88 = .ok (.ifCond .lt 7, 3) := by decide +kernel
theorem dL_rearranges_91 : decode cL_rearranges 91 = .ok (.iconst 1, 1) := by decide +kernel
theorem dL_rearranges_92 : decode cL_rearranges 92 = .ok (.goto 4, 3) := by decide +kernel
theorem dL_rearranges_95 : decode cL_rearranges 95 = .ok (.iconst 0, 1) := by decide +kernel
theorem dL_rearranges_96 : decode cL_rearranges 96 = .ok (.istore 5, 2) := by decide +kernel
theorem dL_rearranges_98 : decode cL_rearranges 98 = .ok (.iinc 6 1, 3) := by decide +kernel
theorem dL_rearranges_101 : decode cL_rearranges 101 = .ok (.goto (-44), 3) := by decide +kernel
theorem dL_rearranges_104 : decode cL_rearranges 104 = .ok (.iload 5, 2) := by decide +kernel
theorem dL_rearranges_106 : decode cL_rearranges 106 = .ok (.ifCond .eq 58, 3) := by decide +kernel
theorem dL_rearranges_109 : decode cL_rearranges 109 = .ok (.aload_n 0, 1) := by decide +kernel
theorem dL_rearranges_110 : decode cL_rearranges 110 = .ok (.iconst 0, 1) := by decide +kernel
theorem dL_rearranges_111 : decode cL_rearranges 111 = .ok (.invokevirtual 13, 3) := by decide +kernel
theorem dL_rearranges_114 : decode cL_rearranges 114 = .ok (.iload_n 2, 1) := by decide +kernel
theorem dL_rearranges_115 : decode cL_rearranges 115 = .ok (.if_icmp .ne 49, 3) := by decide +kernel
theorem dL_rearranges_118 : decode cL_rearranges 118 = .ok (.aload_n 0, 1) := by decide +kernel
theorem dL_rearranges_119 : decode cL_rearranges 119 = .ok (.iconst 4, 1) := by decide +kernel
theorem dL_rearranges_120 : decode cL_rearranges 120 = .ok (.invokevirtual 13, 3) := by decide +kernel
theorem dL_rearranges_123 : decode cL_rearranges 123 = .ok (.iload_n 3, 1) := by decide +kernel
theorem dL_rearranges_124 : decode cL_rearranges 124 = .ok (.iload 4, 2) := by decide +kernel
theorem dL_rearranges_126 : decode cL_rearranges 126 = .ok (.ifCond .le 8, 3) := by decide +kernel
theorem dL_rearranges_129 : decode cL_rearranges 129 = .ok (.iload 4, 2) := by decide +kernel
theorem dL_rearranges_131 : decode cL_rearranges 131 = .ok (.goto 4, 3) := by decide +kernel
theorem dL_rearranges_134 : decode cL_rearranges 134 = .ok (.iconst 0, 1) := by decide +kernel
theorem dL_rearranges_135 : decode cL_rearranges 135 = .ok (.iadd, 1) := by decide +kernel
theorem dL_rearranges_136 : decode cL_rearranges 136 = .ok (.if_icmp .ne 28, 3) := by decide +kernel
theorem dL_rearranges_139 : decode cL_rearranges 139 = .ok (.iload_n 1, 1) := by decide +kernel
theorem dL_rearranges_140 : decode cL_rearranges 140 = .ok (.ifCond .eq 10, 3) := by decide +kernel
theorem dL_rearranges_143 : decode cL_rearranges 143 = .ok (.aload_n 0, 1) := by decide +kernel
theorem dL_rearranges_144 : decode cL_rearranges 144 = .ok (.invokevirtual 98, 3) := by decide +kernel
theorem dL_rearranges_147 : decode cL_rearranges 147 = .ok (.goto 7, 3) := by decide +kernel
theorem dL_rearranges_150 : decode cL_rearranges 150 = .ok (.aload_n 0, 1) := by decide +kernel
theorem dL_rearranges_151 : decode cL_rearranges 151 = .ok (.invokevirtual 102, 3) := by decide +kernel
theorem dL_rearranges_154 : decode cL_rearranges 154 = .ok (.bipush (-4), 2) := by decide +kernel
theorem dL_rearranges_156 : decode cL_rearranges 156 = .ok (.if_icmp .ne 8, 3) := by decide +kernel
theorem dL_rearranges_159 : decode cL_rearranges 159 = .ok (.iload 4, 2) := by decide +kernel
theorem dL_rearranges_161 : decode cL_rearranges 161 = .ok (.goto 5, 3) := by decide +kernel
theorem dL_rearranges_164 : decode cL_rearranges 164 = .ok (.bipush (-9), 2) := by decide +kernel
theorem dL_rearranges_166 : decode cL_rearranges 166 = .ok (.ireturn, 1) := by decide +kernel
theorem dL_searches_0 : decode cL_searches 0 = .ok (.aload_n 0, 1) := by decide +kernel
theorem dL_searches_1 : decode cL_searches 1 = .ok (.iload_n 1, 1) := by decide +kernel
theorem dL_searches_2 : decode cL_searches 2 = .ok (.invokevirtual 50, 3) := by decide +kernel
theorem dL_searches_5 : decode cL_searches 5 = .ok (.istore_n 2, 1) := by decide +kernel
theorem dL_searches_6 : decode cL_searches 6 = .ok (.aload_n 0, 1) := by decide +kernel
theorem dL_searches_7 : decode cL_searches 7 = .ok (.iload_n 1, 1) := by decide +kernel
theorem dL_searches_8 : decode cL_searches 8 = .ok (.invokevirtual 53, 3) := by decide +kernel
theorem dL_searches_11 : decode cL_searches 11 = .ok (.istore_n 3, 1) := by decide +kernel
theorem dL_searches_12 : decode cL_searches 12 = .ok (.aload_n 0, 1) := by decide +kernel
theorem dL_searches_13 : decode cL_searches 13 = .ok (.iconst 5, 1) := by decide +kernel
theorem dL_searches_14 : decode cL_searches 14 = .ok (.invokevirtual 13, 3) := by decide +kernel
theorem dL_searches_17 : decode cL_searches 17 = .ok (.istore 4, 2) := by decide +kernel
theorem dL_searches_19 : decode cL_searches 19 = .ok (.aload_n 0, 1) := by decide +kernel
theorem dL_searches_20 : decode cL_searches 20 = .ok (.bipush 6, 2) := by decide +kernel
theorem dL_searches_22 : decode cL_searches 22 = .ok (.invokevirtual 13, 3) := by decide +kernel
theorem dL_searches_25 : decode cL_searches 25 = .ok (.istore 5, 2) := by decide +kernel
theorem dL_searches_27 : decode cL_searches 27 = .ok (.iload_n 2, 1) := by decide +kernel
theorem dL_searches_28 : decode cL_searches 28 = .ok (.ifCond .ge 7, 3) := by decide +kernel
theorem dL_searches_31 : decode cL_searches 31 = .ok (.iconst 0, 1) := by decide +kernel
theorem dL_searches_32 : decode cL_searches 32 = .ok (.goto 8, 3) := by decide +kernel
theorem dL_searches_35 : decode cL_searches 35 = .ok (.aload_n 0, 1) := by decide +kernel
theorem dL_searches_36 : decode cL_searches 36 = .ok (.iload_n 2, 1) := by decide +kernel
theorem dL_searches_37 : decode cL_searches 37 = .ok (.invokevirtual 35, 3) := by decide +kernel
theorem dL_searches_40 : decode cL_searches 40 = .ok (.istore 6, 2) := by decide +kernel
theorem dL_searches_42 : decode cL_searches 42 = .ok (.aload_n 0, 1) := by decide +kernel
theorem dL_searches_43 : decode cL_searches 43 = .ok (.iload_n 1, 1) := by decide +kernel
theorem dL_searches_44 : decode cL_searches 44 = .ok (.invokevirtual 69, 3) := by decide +kernel
theorem dL_searches_47 : decode cL_searches 47 = .ok (.istore 7, 2) := by decide +kernel
theorem dL_searches_49 : decode cL_searches 49 = .ok (.iload_n 2, 1) := by decide +kernel
theorem dL_searches_50 : decode cL_searches 50 = .ok (.ifCond .ge 28, 3) := by decide +kernel
theorem dL_searches_53 : decode cL_searches 53 = .ok (.iload 7, 2) := by decide +kernel
theorem dL_searches_55 : decode cL_searches 55 = .ok (.bipush (-4), 2) := by decide +kernel
theorem dL_searches_57 : decode cL_searches 57 = .ok (.if_icmp .ne 18, 3) := by decide +kernel
theorem dL_searches_60 : decode cL_searches 60 = .ok (.aload_n 0, 1) := by decide +kernel
theorem dL_searches_61 : decode cL_searches 61 = .ok (.iconst 5, 1) := by decide +kernel
theorem dL_searches_62 : decode cL_searches 62 = .ok (.invokevirtual 13, 3) := by decide +kernel
theorem dL_searches_65 : decode cL_searches 65 = .ok (.iload 4, 2) := by decide +kernel
theorem dL_searches_67 : decode cL_searches 67 = .ok (.if_icmp .ne 8, 3) := by decide +kernel
theorem dL_searches_70 : decode cL_searches 70 = .ok (.bipush (-4), 2) := by decide +kernel
theorem dL_searches_72 : decode cL_searches 72 = .ok (.goto 5, 3) := by decide +kernel
theorem dL_searches_75 : decode cL_searches 75 = .ok (.bipush (-9), 2) := by decide +kernel
theorem dL_searches_77 : decode cL_searches 77 = .ok (.ireturn, 1) := by decide +kernel
theorem dL_searches_78 : decode cL_searches 78 = .ok (.iload 7, 2) := by decide +kernel
theorem dL_searches_80 : decode cL_searches 80 = .ok (.aload_n 0, 1) := by decide +kernel
theorem dL_searches_81 : decode cL_searches 81 = .ok (.iload_n 2, 1) := by decide +kernel
theorem dL_searches_82 : decode cL_searches 82 = .ok (.invokevirtual 29, 3) := by decide +kernel
theorem dL_searches_85 : decode cL_searches 85 = .ok (.if_icmp .ne 45, 3) := by decide +kernel
theorem dL_searches_88 : decode cL_searches 88 = .ok (.aload_n 0, 1) := by decide +kernel
theorem dL_searches_89 : decode cL_searches 89 = .ok (.iload_n 2, 1) := by decide +kernel
theorem dL_searches_90 : decode cL_searches 90 = .ok (.invokevirtual 35, 3) := by decide +kernel
theorem dL_searches_93 : decode cL_searches 93 = .ok (.iload 6, 2) := by decide +kernel
theorem dL_searches_95 : decode cL_searches 95 = .ok (.iconst 1, 1) := by decide +kernel
theorem dL_searches_96 : decode cL_searches 96 = .ok (.iadd, 1) := by decide +kernel
theorem dL_searches_97 : decode cL_searches 97 = .ok (.if_icmp .ne 33, 3) := by decide +kernel
theorem dL_searches_100 : decode cL_searches 100 = .ok (.aload_n 0, 1) := by decide +kernel
theorem dL_searches_101 : decode cL_searches 101 = .ok (.iconst 5, 1) := by decide +kernel
theorem dL_searches_102 : decode cL_searches 102 = .ok (.invokevirtual 13, 3) := by decide +kernel
theorem dL_searches_105 : decode cL_searches 105 = .ok (.iload 4, 2) := by decide +kernel
theorem dL_searches_107 : decode cL_searches 107 = .ok (.iconst 1, 1) := by decide +kernel
theorem dL_searches_108 : decode cL_searches 108 = .ok (.iadd, 1) := by decide +kernel
theorem dL_searches_109 : decode cL_searches 109 = .ok (.if_icmp .ne 21, 3) := by decide +kernel
theorem dL_searches_112 : decode cL_searches 112 = .ok (.aload_n 0, 1) := by decide +kernel
theorem dL_searches_113 : decode cL_searches 113 = .ok (.bipush 6, 2) := by decide +kernel
theorem dL_searches_115 : decode cL_searches 115 = .ok (.invokevirtual 13, 3) := by decide +kernel
theorem dL_searches_118 : decode cL_searches 118 = .ok (.iload 5, 2) := by decide +kernel
theorem dL_searches_120 : decode cL_searches 120 = .ok (.iload_n 3, 1) := by decide +kernel
theorem dL_searches_121 : decode cL_searches 121 = .ok (.iadd, 1) := by decide +kernel
theorem dL_searches_122 : decode cL_searches 122 = .ok (.if_icmp .ne 8, 3) := by decide +kernel
theorem dL_searches_125 : decode cL_searches 125 = .ok (.iload 7, 2) := by decide +kernel
theorem dL_searches_127 : decode cL_searches 127 = .ok (.goto 5, 3) := by decide +kernel
theorem dL_searches_130 : decode cL_searches 130 = .ok (.bipush (-9), 2) := by decide +kernel
theorem dL_searches_132 : decode cL_searches 132 = .ok (.ireturn, 1) := by decide +kernel
theorem dL_act_0 : decode cL_act 0 = .ok (.iload_n 1, 1) := by decide +kernel
theorem dL_act_1 : decode cL_act 1 = .ok (.bipush 16, 2) := by decide +kernel
theorem dL_act_3 : decode cL_act 3 = .ok (.idiv, 1) := by decide +kernel
theorem dL_act_4 : decode cL_act 4 = .ok (.istore_n 2, 1) := by decide +kernel
theorem dL_act_5 : decode cL_act 5 = .ok (.iload_n 1, 1) := by decide +kernel
theorem dL_act_6 : decode cL_act 6 = .ok (.bipush 16, 2) := by decide +kernel
theorem dL_act_8 : decode cL_act 8 = .ok (.irem, 1) := by decide +kernel
theorem dL_act_9 : decode cL_act 9 = .ok (.istore_n 3, 1) := by decide +kernel
theorem dL_act_10 : decode cL_act 10 = .ok (.iload_n 3, 1) := by decide +kernel
theorem dL_act_11 : decode cL_act 11 = .ok (.iconst 5, 1) := by decide +kernel
theorem dL_act_12 : decode cL_act 12 = .ok (.if_icmp .ge 9, 3) := by decide +kernel
theorem dL_act_15 : decode cL_act 15 = .ok (.aload_n 0, 1) := by decide +kernel
theorem dL_act_16 : decode cL_act 16 = .ok (.iload_n 2, 1) := by decide +kernel
theorem dL_act_17 : decode cL_act 17 = .ok (.invokestatic 105, 3) := by decide +kernel
theorem dL_act_20 : decode cL_act 20 = .ok (.ireturn, 1) := by decide +kernel
theorem dL_act_21 : decode cL_act 21 = .ok (.iload_n 3, 1) := by decide +kernel
theorem dL_act_22 : decode cL_act 22 = .ok (.bipush 8, 2) := by decide +kernel
theorem dL_act_24 : decode cL_act 24 = .ok (.if_icmp .ge 9, 3) := by decide +kernel
theorem dL_act_27 : decode cL_act 27 = .ok (.aload_n 0, 1) := by decide +kernel
theorem dL_act_28 : decode cL_act 28 = .ok (.iload_n 2, 1) := by decide +kernel
theorem dL_act_29 : decode cL_act 29 = .ok (.invokestatic 109, 3) := by decide +kernel
theorem dL_act_32 : decode cL_act 32 = .ok (.ireturn, 1) := by decide +kernel
theorem dL_act_33 : decode cL_act 33 = .ok (.iload_n 3, 1) := by decide +kernel
theorem dL_act_34 : decode cL_act 34 = .ok (.bipush 10, 2) := by decide +kernel
theorem dL_act_36 : decode cL_act 36 = .ok (.if_icmp .ge 55, 3) := by decide +kernel
theorem dL_act_39 : decode cL_act 39 = .ok (.iload_n 2, 1) := by decide +kernel
theorem dL_act_40 : decode cL_act 40 = .ok (.aload_n 0, 1) := by decide +kernel
theorem dL_act_41 : decode cL_act 41 = .ok (.iconst 2, 1) := by decide +kernel
theorem dL_act_42 : decode cL_act 42 = .ok (.invokevirtual 13, 3) := by decide +kernel
theorem dL_act_45 : decode cL_act 45 = .ok (.iconst 1, 1) := by decide +kernel
theorem dL_act_46 : decode cL_act 46 = .ok (.iadd, 1) := by decide +kernel
theorem dL_act_47 : decode cL_act 47 = .ok (.irem, 1) := by decide +kernel
theorem dL_act_48 : decode cL_act 48 = .ok (.istore 4, 2) := by decide +kernel
theorem dL_act_50 : decode cL_act 50 = .ok (.aload_n 0, 1) := by decide +kernel
theorem dL_act_51 : decode cL_act 51 = .ok (.iload 4, 2) := by decide +kernel
theorem dL_act_53 : decode cL_act 53 = .ok (.invokevirtual 38, 3) := by decide +kernel
theorem dL_act_56 : decode cL_act 56 = .ok (.istore 5, 2) := by decide +kernel
theorem dL_act_58 : decode cL_act 58 = .ok (.aload_n 0, 1) := by decide +kernel
theorem dL_act_59 : decode cL_act 59 = .ok (.iload 4, 2) := by decide +kernel
theorem dL_act_61 : decode cL_act 61 = .ok (.invokevirtual 63, 3) := by decide +kernel
theorem dL_act_64 : decode cL_act 64 = .ok (.istore 6, 2) := by decide +kernel
theorem dL_act_66 : decode cL_act 66 = .ok (.iload 6, 2) := by decide +kernel
theorem dL_act_68 : decode cL_act 68 = .ok (.iload 5, 2) := by decide +kernel
theorem dL_act_70 : decode cL_act 70 = .ok (.if_icmp .ne 18, 3) := by decide +kernel
theorem dL_act_73 : decode cL_act 73 = .ok (.aload_n 0, 1) := by decide +kernel
theorem dL_act_74 : decode cL_act 74 = .ok (.iload 4, 2) := by decide +kernel
theorem dL_act_76 : decode cL_act 76 = .ok (.invokevirtual 38, 3) := by decide +kernel
theorem dL_act_79 : decode cL_act 79 = .ok (.iconst (-1), 1) := by decide +kernel
theorem dL_act_80 : decode cL_act 80 = .ok (.if_icmp .ne 8, 3) := by decide +kernel
theorem dL_act_83 : decode cL_act 83 = .ok (.iload 6, 2) := by decide +kernel
theorem dL_act_85 : decode cL_act 85 = .ok (.goto 5, 3) := by decide +kernel
theorem dL_act_88 : decode cL_act 88 = .ok (.bipush (-9), 2) := by decide +kernel
theorem dL_act_90 : decode cL_act 90 = .ok (.ireturn, 1) := by decide +kernel
theorem dL_act_91 : decode cL_act 91 = .ok (.iload_n 3, 1) := by decide +kernel
theorem dL_act_92 : decode cL_act 92 = .ok (.bipush 10, 2) := by decide +kernel
theorem dL_act_94 : decode cL_act 94 = .ok (.if_icmp .ne 11, 3) := by decide +kernel
theorem dL_act_97 : decode cL_act 97 = .ok (.aload_n 0, 1) := by decide +kernel
theorem dL_act_98 : decode cL_act 98 = .ok (.iload_n 2, 1) := by decide +kernel
theorem dL_act_99 : decode cL_act 99 = .ok (.iconst 3, 1) := by decide +kernel
theorem dL_act_100 : decode cL_act 100 = .ok (.irem, 1) := by decide +kernel
theorem dL_act_101 : decode cL_act 101 = .ok (.invokevirtual 66, 3) := by decide +kernel
theorem dL_act_104 : decode cL_act 104 = .ok (.ireturn, 1) := by decide +kernel
theorem dL_act_105 : decode cL_act 105 = .ok (.iload_n 3, 1) := by decide +kernel
theorem dL_act_106 : decode cL_act 106 = .ok (.bipush 13, 2) := by decide +kernel
theorem dL_act_108 : decode cL_act 108 = .ok (.if_icmp .ge 21, 3) := by decide +kernel
theorem dL_act_111 : decode cL_act 111 = .ok (.aload_n 0, 1) := by decide +kernel
theorem dL_act_112 : decode cL_act 112 = .ok (.iload_n 3, 1) := by decide +kernel
theorem dL_act_113 : decode cL_act 113 = .ok (.bipush 12, 2) := by decide +kernel
theorem dL_act_115 : decode cL_act 115 = .ok (.if_icmp .ne 7, 3) := by decide +kernel
theorem dL_act_118 : decode cL_act 118 = .ok (.iconst 1, 1) := by decide +kernel
theorem dL_act_119 : decode cL_act 119 = .ok (.goto 4, 3) := by decide +kernel
theorem dL_act_122 : decode cL_act 122 = .ok (.iconst 0, 1) := by decide +kernel
theorem dL_act_123 : decode cL_act 123 = .ok (.invokestatic 112, 3) := by decide +kernel
theorem dL_act_126 : decode cL_act 126 = .ok (.goto 12, 3) := by decide +kernel
theorem dL_act_129 : decode cL_act 129 = .ok (.aload_n 0, 1) := by decide +kernel
theorem dL_act_130 : decode cL_act 130 = .ok (.iload_n 2, 1) := by decide +kernel
theorem dL_act_131 : decode cL_act 131 = .ok (.sipush 255, 3) := by decide +kernel
theorem dL_act_134 : decode cL_act 134 = .ok (.iand, 1) := by decide +kernel
theorem dL_act_135 : decode cL_act 135 = .ok (.invokestatic 116, 3) := by decide +kernel
theorem dL_act_138 : decode cL_act 138 = .ok (.ireturn, 1) := by decide +kernel
theorem dL_law_0 : decode cL_law 0 = .ok (.new 14, 3) := by decide +kernel
theorem dL_law_3 : decode cL_law 3 = .ok (.dup, 1) := by decide +kernel
theorem dL_law_4 : decode cL_law 4 = .ok (.invokespecial 119, 3) := by decide +kernel
theorem dL_law_7 : decode cL_law 7 = .ok (.astore_n 1, 1) := by decide +kernel
theorem dL_law_8 : decode cL_law 8 = .ok (.aload_n 1, 1) := by decide +kernel
theorem dL_law_9 : decode cL_law 9 = .ok (.invokevirtual 120, 3) := by decide +kernel
theorem dL_law_12 : decode cL_law 12 = .ok (.bipush (-4), 2) := by decide +kernel
theorem dL_law_14 : decode cL_law 14 = .ok (.if_icmp .ne 96, 3) := by decide +kernel
theorem dL_law_17 : decode cL_law 17 = .ok (.aload_n 1, 1) := by decide +kernel
theorem dL_law_18 : decode cL_law 18 = .ok (.invokevirtual 123, 3) := by decide +kernel
theorem dL_law_21 : decode cL_law 21 = .ok (.bipush (-4), 2) := by decide +kernel
theorem dL_law_23 : decode cL_law 23 = .ok (.if_icmp .ne 87, 3) := by decide +kernel
theorem dL_law_26 : decode cL_law 26 = .ok (.aload_n 1, 1) := by decide +kernel
theorem dL_law_27 : decode cL_law 27 = .ok (.iconst 0, 1) := by decide +kernel
theorem dL_law_28 : decode cL_law 28 = .ok (.invokevirtual 13, 3) := by decide +kernel
theorem dL_law_31 : decode cL_law 31 = .ok (.ifCond .ne 79, 3) := by decide +kernel
theorem dL_law_34 : decode cL_law 34 = .ok (.aload_n 1, 1) := by decide +kernel
theorem dL_law_35 : decode cL_law 35 = .ok (.bipush 8, 2) := by decide +kernel
theorem dL_law_37 : decode cL_law 37 = .ok (.invokevirtual 13, 3) := by decide +kernel
theorem dL_law_40 : decode cL_law 40 = .ok (.sipush 256, 3) := by decide +kernel
theorem dL_law_43 : decode cL_law 43 = .ok (.if_icmp .ne 67, 3) := by decide +kernel
theorem dL_law_46 : decode cL_law 46 = .ok (.aload_n 1, 1) := by decide +kernel
theorem dL_law_47 : decode cL_law 47 = .ok (.invokevirtual 102, 3) := by decide +kernel
theorem dL_law_50 : decode cL_law 50 = .ok (.bipush (-4), 2) := by decide +kernel
theorem dL_law_52 : decode cL_law 52 = .ok (.if_icmp .ne 58, 3) := by decide +kernel
theorem dL_law_55 : decode cL_law 55 = .ok (.aload_n 1, 1) := by decide +kernel
theorem dL_law_56 : decode cL_law 56 = .ok (.invokevirtual 98, 3) := by decide +kernel
theorem dL_law_59 : decode cL_law 59 = .ok (.bipush (-4), 2) := by decide +kernel
theorem dL_law_61 : decode cL_law 61 = .ok (.if_icmp .ne 49, 3) := by decide +kernel
theorem dL_law_64 : decode cL_law 64 = .ok (.aload_n 1, 1) := by decide +kernel
theorem dL_law_65 : decode cL_law 65 = .ok (.invokevirtual 126, 3) := by decide +kernel
theorem dL_law_68 : decode cL_law 68 = .ok (.bipush (-100), 2) := by decide +kernel
theorem dL_law_70 : decode cL_law 70 = .ok (.if_icmp .ne 40, 3) := by decide +kernel
theorem dL_law_73 : decode cL_law 73 = .ok (.aload_n 1, 1) := by decide +kernel
theorem dL_law_74 : decode cL_law 74 = .ok (.iconst 0, 1) := by decide +kernel
theorem dL_law_75 : decode cL_law 75 = .ok (.invokevirtual 69, 3) := by decide +kernel
theorem dL_law_78 : decode cL_law 78 = .ok (.bipush (-4), 2) := by decide +kernel
theorem dL_law_80 : decode cL_law 80 = .ok (.if_icmp .ne 30, 3) := by decide +kernel
theorem dL_law_83 : decode cL_law 83 = .ok (.aload_n 1, 1) := by decide +kernel
theorem dL_law_84 : decode cL_law 84 = .ok (.iconst 0, 1) := by decide +kernel
theorem dL_law_85 : decode cL_law 85 = .ok (.invokestatic 129, 3) := by decide +kernel
theorem dL_law_88 : decode cL_law 88 = .ok (.ifCond .eq 22, 3) := by decide +kernel
theorem dL_law_91 : decode cL_law 91 = .ok (.aload_n 1, 1) := by decide +kernel
theorem dL_law_92 : decode cL_law 92 = .ok (.iconst 1, 1) := by decide +kernel
theorem dL_law_93 : decode cL_law 93 = .ok (.invokestatic 129, 3) := by decide +kernel
theorem dL_law_96 : decode cL_law 96 = .ok (.ifCond .eq 14, 3) := by decide +kernel
theorem dL_law_99 : decode cL_law 99 = .ok (.aload_n 1, 1) := by decide +kernel
theorem dL_law_100 : decode cL_law 100 = .ok (.invokevirtual 132, 3) := by decide +kernel
theorem dL_law_103 : decode cL_law 103 = .ok (.ifCond .ne 7, 3) := by decide +kernel
theorem dL_law_106 : decode cL_law 106 = .ok (.iconst 1, 1) := by decide +kernel
theorem dL_law_107 : decode cL_law 107 = .ok (.goto 4, 3) := by decide +kernel
theorem dL_law_110 : decode cL_law 110 = .ok (.iconst 0, 1) := by decide +kernel
theorem dL_law_111 : decode cL_law 111 = .ok (.istore_n 2, 1) := by decide +kernel
theorem dL_law_112 : decode cL_law 112 = .ok (.aload_n 1, 1) := by decide +kernel
theorem dL_law_113 : decode cL_law 113 = .ok (.invokestatic 90, 3) := by decide +kernel
theorem dL_law_116 : decode cL_law 116 = .ok (.lstore_n 3, 1) := by decide +kernel
theorem dL_law_117 : decode cL_law 117 = .ok (.iconst 0, 1) := by decide +kernel
theorem dL_law_118 : decode cL_law 118 = .ok (.istore 5, 2) := by decide +kernel
theorem dL_law_120 : decode cL_law 120 = .ok (.iload 5, 2) := by decide +kernel
theorem dL_law_122 : decode cL_law 122 = .ok (.bipush 48, 2) := by decide +kernel
theorem dL_law_124 : decode cL_law 124 = .ok (.if_icmp .ge 301, 3) := by decide +kernel
theorem dL_law_127 : decode cL_law 127 = .ok (.iload_n 2, 1) := by decide +kernel
theorem dL_law_128 : decode cL_law 128 = .ok (.ifCond .eq 297, 3) := by decide +kernel
theorem dL_law_131 : decode cL_law 131 = .ok (.aload_n 0, 1) := by decide +kernel
theorem dL_law_132 : decode cL_law 132 = .ok (.iload 5, 2) := by decide +kernel
theorem dL_law_134 : decode cL_law 134 = .ok (.invokestatic 135, 3) := by decide +kernel
theorem dL_law_137 : decode cL_law 137 = .ok (.istore 6, 2) := by decide +kernel
theorem dL_law_139 : decode cL_law 139 = .ok (.aload_n 1, 1) := by decide +kernel
theorem dL_law_140 : decode cL_law 140 = .ok (.invokestatic 90, 3) := by decide +kernel
theorem dL_law_143 : decode cL_law 143 = .ok (.lstore 7, 2) := by decide +kernel
theorem dL_law_145 : decode cL_law 145 = .ok (.aload_n 1, 1) := by decide +kernel
theorem dL_law_146 : decode cL_law 146 = .ok (.bipush 9, 2) := by decide +kernel
theorem dL_law_148 : decode cL_law 148 = .ok (.invokevirtual 13, 3) := by decide +kernel
theorem dL_law_151 : decode cL_law 151 = .ok (.istore 9, 2) := by decide +kernel
theorem dL_law_153 : decode cL_law 153 = .ok (.aload_n 1, 1) := by decide +kernel
theorem dL_law_154 : decode cL_law 154 = .ok (.iload 6, 2) := by decide +kernel
theorem dL_law_156 : decode cL_law 156 = .ok (.invokestatic 139, 3) := by decide +kernel
theorem dL_law_159 : decode cL_law 159 = .ok (.istore 10, 2) := by decide +kernel
theorem dL_law_161 : decode cL_law 161 = .ok (.aload_n 1, 1) := by decide +kernel
theorem dL_law_162 : decode cL_law 162 = .ok (.bipush 9, 2) := by decide +kernel
theorem dL_law_164 : decode cL_law 164 = .ok (.invokevirtual 13, 3) := by decide +kernel
theorem dL_law_167 : decode cL_law 167 = .ok (.istore 11, 2) := by decide +kernel
theorem dL_law_169 : decode cL_law 169 = .ok (.iload 10, 2) := by decide +kernel
theorem dL_law_171 : decode cL_law 171 = .ok (.bipush (-9), 2) := by decide +kernel
theorem dL_law_173 : decode cL_law 173 = .ok (.if_icmp .le 51, 3) := by decide +kernel
theorem dL_law_176 : decode cL_law 176 = .ok (.iload 10, 2) := by decide +kernel
theorem dL_law_178 : decode cL_law 178 = .ok (.ifCond .ge 23, 3) := by decide +kernel
theorem dL_law_181 : decode cL_law 181 = .ok (.iload 11, 2) := by decide +kernel
theorem dL_law_183 : decode cL_law 183 = .ok (.iload 9, 2) := by decide +kernel
theorem dL_law_185 : decode cL_law 185 = .ok (.if_icmp .ne 39, 3) := by decide +kernel
theorem dL_law_188 : decode cL_law 188 = .ok (.aload_n 1, 1) := by decide +kernel
theorem dL_law_189 : decode cL_law 189 = .ok (.invokestatic 90, 3) := by decide +kernel
theorem dL_law_192 : decode cL_law 192 = .ok (.lload 7, 2) := by decide +kernel
theorem dL_law_194 : decode cL_law 194 = .ok (.lcmp, 1) := by decide +kernel
theorem dL_law_195 : decode cL_law 195 = .ok (.ifCond .ne 29, 3) := by decide +kernel
theorem dL_law_198 : decode cL_law 198 = .ok (.goto 22, 3) := by decide +kernel
theorem dL_law_201 : decode cL_law 201 = .ok (.iload 11, 2) := by decide +kernel
theorem dL_law_203 : decode cL_law 203 = .ok (.iload 9, 2) := by decide +kernel
theorem dL_law_205 : decode cL_law 205 = .ok (.iconst 4, 1) := by decide +kernel
theorem dL_law_206 : decode cL_law 206 = .ok (.if_icmp .ge 10, 3) := by decide +kernel
theorem dL_law_209 : decode cL_law 209 = .ok (.iload 9, 2) := by decide +kernel
theorem dL_law_211 : decode cL_law 211 = .ok (.iconst 1, 1) := by decide +kernel
theorem dL_law_212 : decode cL_law 212 = .ok (.iadd, 1) := by decide +kernel
theorem dL_law_213 : decode cL_law 213 = .ok (.goto 4, 3) := by decide +kernel
theorem dL_law_216 : decode cL_law 216 = .ok (.iconst 4, 1) := by decide +kernel
theorem dL_law_217 : decode cL_law 217 = .ok (.if_icmp .ne 7, 3) := by decide +kernel
theorem dL_law_220 : decode cL_law 220 = .ok (.iconst 1, 1) := by decide +kernel
theorem dL_law_221 : decode cL_law 221 = .ok (.goto 4, 3) := by decide +kernel
theorem dL_law_224 : decode cL_law 224 = .ok (.iconst 0, 1) := by decide +kernel
theorem dL_law_225 : decode cL_law 225 = .ok (.istore_n 2, 1) := by decide +kernel
theorem dL_law_226 : decode cL_law 226 = .ok (.iload_n 2, 1) := by decide +kernel
theorem dL_law_227 : decode cL_law 227 = .ok (.ifCond .eq 53, 3) := by decide +kernel
theorem dL_law_230 : decode cL_law 230 = .ok (.aload_n 1, 1) := by decide +kernel
theorem dL_law_231 : decode cL_law 231 = .ok (.invokestatic 142, 3) := by decide +kernel
theorem dL_law_234 : decode cL_law 234 = .ok (.ifCond .eq 46, 3) := by decide +kernel
theorem dL_law_237 : decode cL_law 237 = .ok (.iload 5, 2) := by decide +kernel
theorem dL_law_239 : decode cL_law 239 = .ok (.bipush 6, 2) := by decide +kernel
theorem dL_law_241 : decode cL_law 241 = .ok (.irem, 1) := by decide +kernel
theorem dL_law_242 : decode cL_law 242 = .ok (.iconst 5, 1) := by decide +kernel
theorem dL_law_243 : decode cL_law 243 = .ok (.if_icmp .ne 14, 3) := by decide +kernel
theorem dL_law_246 : decode cL_law 246 = .ok (.aload_n 1, 1) := by decide +kernel
theorem dL_law_247 : decode cL_law 247 = .ok (.iload 6, 2) := by decide +kernel
theorem dL_law_249 : decode cL_law 249 = .ok (.iconst 3, 1) := by decide +kernel
theorem dL_law_250 : decode cL_law 250 = .ok (.idiv, 1) := by decide +kernel
theorem dL_law_251 : decode cL_law 251 = .ok (.invokestatic 146, 3) := by decide +kernel
theorem dL_law_254 : decode cL_law 254 = .ok (.ifCond .eq 26, 3) := by decide +kernel
theorem dL_law_257 : decode cL_law 257 = .ok (.iload 5, 2) := by decide +kernel
theorem dL_law_259 : decode cL_law 259 = .ok (.iconst 5, 1) := by decide +kernel
theorem dL_law_260 : decode cL_law 260 = .ok (.irem, 1) := by decide +kernel
theorem dL_law_261 : decode cL_law 261 = .ok (.iconst 4, 1) := by decide +kernel
theorem dL_law_262 : decode cL_law 262 = .ok (.if_icmp .ne 14, 3) := by decide +kernel
theorem dL_law_265 : decode cL_law 265 = .ok (.aload_n 1, 1) := by decide +kernel
theorem dL_law_266 : decode cL_law 266 = .ok (.iload 6, 2) := by decide +kernel
theorem dL_law_268 : decode cL_law 268 = .ok (.iconst 5, 1) := by decide +kernel
theorem dL_law_269 : decode cL_law 269 = .ok (.idiv, 1) := by decide +kernel
theorem dL_law_270 : decode cL_law 270 = .ok (.invokestatic 129, 3) := by decide +kernel
theorem dL_law_273 : decode cL_law 273 = .ok (.ifCond .eq 7, 3) := by decide +kernel
theorem dL_law_276 : decode cL_law 276 = .ok (.iconst 1, 1) := by decide +kernel
theorem dL_law_277 : decode cL_law 277 = .ok (.goto 4, 3) := by decide +kernel
theorem dL_law_280 : decode cL_law 280 = .ok (.iconst 0, 1) := by decide +kernel
theorem dL_law_281 : decode cL_law 281 = .ok (.istore_n 2, 1) := by decide +kernel
theorem dL_law_282 : decode cL_law 282 = .ok (.iload_n 2, 1) := by decide +kernel
theorem dL_law_283 : decode cL_law 283 = .ok (.ifCond .eq 53, 3) := by decide +kernel
theorem dL_law_286 : decode cL_law 286 = .ok (.iload 10, 2) := by decide +kernel
theorem dL_law_288 : decode cL_law 288 = .ok (.ifCond .lt 48, 3) := by decide +kernel
theorem dL_law_291 : decode cL_law 291 = .ok (.iload 6, 2) := by decide +kernel
theorem dL_law_293 : decode cL_law 293 = .ok (.bipush 11, 2) := by decide +kernel
theorem dL_law_295 : decode cL_law 295 = .ok (.idiv, 1) := by decide +kernel
theorem dL_law_296 : decode cL_law 296 = .ok (.iconst 3, 1) := by decide +kernel
theorem dL_law_297 : decode cL_law 297 = .ok (.irem, 1) := by decide +kernel
theorem dL_law_298 : decode cL_law 298 = .ok (.ifCond .ne 38, 3) := by decide +kernel
theorem dL_law_301 : decode cL_law 301 = .ok (.aload_n 1, 1) := by decide +kernel
theorem dL_law_302 : decode cL_law 302 = .ok (.invokevirtual 120, 3) := by decide +kernel
theorem dL_law_305 : decode cL_law 305 = .ok (.iload 9, 2) := by decide +kernel
theorem dL_law_307 : decode cL_law 307 = .ok (.iconst 4, 1) := by decide +kernel
theorem dL_law_308 : decode cL_law 308 = .ok (.if_icmp .ge 8, 3) := by decide +kernel
theorem dL_law_311 : decode cL_law 311 = .ok (.iload 9, 2) := by decide +kernel
theorem dL_law_313 : decode cL_law 313 = .ok (.goto 4, 3) := by decide +kernel
theorem dL_law_316 : decode cL_law 316 = .ok (.iconst 3, 1) := by decide +kernel
theorem dL_law_317 : decode cL_law 317 = .ok (.if_icmp .ne 17, 3) := by decide +kernel
theorem dL_law_320 : decode cL_law 320 = .ok (.aload_n 1, 1) := by decide +kernel
theorem dL_law_321 : decode cL_law 321 = .ok (.invokestatic 90, 3) := by decide +kernel
theorem dL_law_324 : decode cL_law 324 = .ok (.lload 7, 2) := by decide +kernel
theorem dL_law_326 : decode cL_law 326 = .ok (.lcmp, 1) := by decide +kernel
theorem dL_law_327 : decode cL_law 327 = .ok (.ifCond .ne 7, 3) := by decide +kernel
theorem dL_law_330 : decode cL_law 330 = .ok (.iconst 1, 1) := by decide +kernel
theorem dL_law_331 : decode cL_law 331 = .ok (.goto 4, 3) := by decide +kernel
theorem dL_law_334 : decode cL_law 334 = .ok (.iconst 0, 1) := by decide +kernel
theorem dL_law_335 : decode cL_law 335 = .ok (.istore_n 2, 1) := by decide +kernel
theorem dL_law_336 : decode cL_law 336 = .ok (.iload_n 2, 1) := by decide +kernel
theorem dL_law_337 : decode cL_law 337 = .ok (.ifCond .eq 82, 3) := by decide +kernel
theorem dL_law_340 : decode cL_law 340 = .ok (.iload 5, 2) := by decide +kernel
theorem dL_law_342 : decode cL_law 342 = .ok (.bipush 12, 2) := by decide +kernel
theorem dL_law_344 : decode cL_law 344 = .ok (.irem, 1) := by decide +kernel
theorem dL_law_345 : decode cL_law 345 = .ok (.bipush 11, 2) := by decide +kernel
theorem dL_law_347 : decode cL_law 347 = .ok (.if_icmp .ne 72, 3) := by decide +kernel
theorem dL_law_350 : decode cL_law 350 = .ok (.aload_n 1, 1) := by decide +kernel
theorem dL_law_351 : decode cL_law 351 = .ok (.iconst 0, 1) := by decide +kernel
theorem dL_law_352 : decode cL_law 352 = .ok (.invokevirtual 13, 3) := by decide +kernel
theorem dL_law_355 : decode cL_law 355 = .ok (.istore 12, 2) := by decide +kernel
theorem dL_law_357 : decode cL_law 357 = .ok (.aload_n 1, 1) := by decide +kernel
theorem dL_law_358 : decode cL_law 358 = .ok (.invokestatic 90, 3) := by decide +kernel
theorem dL_law_361 : decode cL_law 361 = .ok (.lstore 13, 2) := by decide +kernel
theorem dL_law_363 : decode cL_law 363 = .ok (.aload_n 1, 1) := by decide +kernel
theorem dL_law_364 : decode cL_law 364 = .ok (.invokevirtual 123, 3) := by decide +kernel
theorem dL_law_367 : decode cL_law 367 = .ok (.aload_n 1, 1) := by decide +kernel
theorem dL_law_368 : decode cL_law 368 = .ok (.iconst 0, 1) := by decide +kernel
theorem dL_law_369 : decode cL_law 369 = .ok (.invokevirtual 13, 3) := by decide +kernel
theorem dL_law_372 : decode cL_law 372 = .ok (.if_icmp .ne 42, 3) := by decide +kernel
theorem dL_law_375 : decode cL_law 375 = .ok (.aload_n 1, 1) := by decide +kernel
theorem dL_law_376 : decode cL_law 376 = .ok (.invokestatic 90, 3) := by decide +kernel
theorem dL_law_379 : decode cL_law 379 = .ok (.lload_n 3, 1) := by decide +kernel
theorem dL_law_380 : decode cL_law 380 = .ok (.lcmp, 1) := by decide +kernel
theorem dL_law_381 : decode cL_law 381 = .ok (.ifCond .ne 33, 3) := by decide +kernel
theorem dL_law_384 : decode cL_law 384 = .ok (.aload_n 1, 1) := by decide +kernel
theorem dL_law_385 : decode cL_law 385 = .ok (.invokevirtual 120, 3) := by decide +kernel
theorem dL_law_388 : decode cL_law 388 = .ok (.ifCond .lt 26, 3) := by decide +kernel
theorem dL_law_391 : decode cL_law 391 = .ok (.aload_n 1, 1) := by decide +kernel
theorem dL_law_392 : decode cL_law 392 = .ok (.invokestatic 90, 3) := by decide +kernel
theorem dL_law_395 : decode cL_law 395 = .ok (.lload 13, 2) := by decide +kernel
theorem dL_law_397 : decode cL_law 397 = .ok (.lcmp, 1) := by decide +kernel
theorem dL_law_398 : decode cL_law 398 = .ok (.ifCond .ne 16, 3) := by decide +kernel
theorem dL_law_401 : decode cL_law 401 = .ok (.aload_n 1, 1) := by decide +kernel
theorem dL_law_402 : decode cL_law 402 = .ok (.invokevirtual 132, 3) := by decide +kernel
theorem dL_law_405 : decode cL_law 405 = .ok (.iload 12, 2) := by decide +kernel
theorem dL_law_407 : decode cL_law 407 = .ok (.if_icmp .ne 7, 3) := by decide +kernel
theorem dL_law_410 : decode cL_law 410 = .ok (.iconst 1, 1) := by decide +kernel
theorem dL_law_411 : decode cL_law 411 = .ok (.goto 4, 3) := by decide +kernel
theorem dL_law_414 : decode cL_law 414 = .ok (.iconst 0, 1) := by decide +kernel
theorem dL_law_415 : decode cL_law 415 = .ok (.istore_n 2, 1) := by decide +kernel
theorem dL_law_416 : decode cL_law 416 = .ok (.lload 13, 2) := by decide +kernel
theorem dL_law_418 : decode cL_law 418 = .ok (.lstore_n 3, 1) := by decide +kernel
theorem dL_law_419 : decode cL_law 419 = .ok (.iinc 5 1, 3) := by decide +kernel
theorem dL_law_422 : decode cL_law 422 = .ok (.goto (-302), 3) := by decide +kernel
theorem dL_law_425 : decode cL_law 425 = .ok (.iload_n 2, 1) := by decide +kernel
theorem dL_law_426 : decode cL_law 426 = .ok (.ireturn, 1) := by decide +kernel
end
section
/-! ===== the small machine: one world of 64 cells whose references never change, its ints a function of (cell, place); values are ints or cell numbers ===== -/
abbrev xV : Type := Int32 ⊕ Nat
abbrev xM : Type := Nat → Nat → Int32
abbrev xS : Type := Nat ⊕ (List Nat ⊕ (Nat × List (Option Nat)))
/-- launch, class numbers, field places, addresses, the class of int[], the class of Memory[] -/
abbrev xP : Type := Launch × (Nat → ClassId) × (Nat → Nat → Nat) × (Nat → Nat) × ClassId × ClassId
def xl (U : xP) : Launch := U.1
def xD (U : xP) : va_G := (U.2.1, U.2.2.1)
def xad (U : xP) : Nat → Nat := U.2.2.2.1
def xcI (U : xP) : ClassId := U.2.2.2.2.1
def xcQ (U : xP) : ClassId := U.2.2.2.2.2
def classes : List vw_C := [(RX0, TX0, 3), (RX1, TX1, 12), (RX2, TX2, 8), (RX3, TX3, 5)]
def xtys (U : xP) : List (ClassId × FieldType) := [(xcI U, .int), (xcQ U, .object RX1)]
/-- the cells: 0 the object; 1, 2 its history; 3 to 8 its text; 9 to 15 the reference; 16 + 8 g the memory g (0 now, 1 the snapshot, 2 to 5 the history's) and its seven rows -/
def xU : List xS := [.inr (.inr (3, [some 16, some 24, some 1, some 3, none])), .inr (.inr (0, [some 2, none, none])), .inr (.inl [32, 40, 48, 56]), .inr (.inr (2, [some 4, none, none, none, some 5, some 6, some 7, some 8])), .inl 60, .inl 5, .inl 5, .inl 5, .inl 5, .inr (.inr (4, [some 10, some 11, some 12, none, some 13, none, some 14, none, some 15, none, none])), .inl 229, .inl 229, .inl 916, .inl 229, .inl 60, .inl 24, .inr (.inr (1, [some 17, some 18, some 19, some 20, some 21, some 22, some 23, none, none, none, none, none])), .inl 32, .inl 32, .inl 32, .inl 32, .inl 32, .inl 32, .inl 32, .inr (.inr (1, [some 25, some 26, some 27, some 28, some 29, some 30, some 31, none, none, none, none, none])), .inl 32, .inl 32, .inl 32, .inl 32, .inl 32, .inl 32, .inl 32, .inr (.inr (1, [some 33, some 34, some 35, some 36, some 37, some 38, some 39, none, none, none, none, none])), .inl 32, .inl 32, .inl 32, .inl 32, .inl 32, .inl 32, .inl 32, .inr (.inr (1, [some 41, some 42, some 43, some 44, some 45, some 46, some 47, none, none, none, none, none])), .inl 32, .inl 32, .inl 32, .inl 32, .inl 32, .inl 32, .inl 32, .inr (.inr (1, [some 49, some 50, some 51, some 52, some 53, some 54, some 55, none, none, none, none, none])), .inl 32, .inl 32, .inl 32, .inl 32, .inl 32, .inl 32, .inl 32, .inr (.inr (1, [some 57, some 58, some 59, some 60, some 61, some 62, some 63, none, none, none, none, none])), .inl 32, .inl 32, .inl 32, .inl 32, .inl 32, .inl 32, .inl 32]
def xsh (k : Nat) : xS := xU.getD k (.inl 0)
def xcv (U : xP) : xV → Value
  | .inl x => .int x
  | .inr k => .ref (xad U k)
def xfo (U : xP) (f : Nat → Int32) (fs : List (Option Nat)) (j : Nat) : Value := match fs[j]? with
  | some (some k) => .ref (xad U k)
  | _ => .int (f j)
def xfv (U : xP) (f : Nat → Int32) (fs : List (Option Nat)) : List Value := (List.range fs.length).map (xfo U f fs)
def xce (U : xP) (f : Nat → Int32) : xS → va_E
  | .inl n => .inl (xcI U, n, .inl f)
  | .inr (.inl ts) => .inl (xcQ U, ts.length, .inr (.inr (.inr (.inr (fun j => (ts[j]?).map (xad U))))))
  | .inr (.inr (ci, fs)) => .inr (ci, xfv U f fs)
/-- the cells that there are (9 to 15 aren't), and their places in the world's list -/
abbrev xk (k : Nat) : Prop := k < 64 ∧ (k < 9 ∨ 16 ≤ k)
def xps (k : Nat) : Nat := if k < 9 then k else k - 7
def xpc (j : Nat) : Nat := if j < 9 then j else j + 7
theorem xpc_k {j : Nat} (h : j < 57) : xk (xpc j) := by unfold xpc; split <;> exact ⟨by omega, by omega⟩
theorem xpc_ps {k : Nat} (h : xk k) : xpc (xps k) = k := by
  obtain ⟨h1, h2⟩ := h
  unfold xpc xps
  by_cases a : k < 9
  · simp [a]
  · have : ¬ k - 7 < 9 := by omega
    simp only [a, if_false, this]
    omega
theorem xps_pc (j : Nat) : xps (xpc j) = j := by
  unfold xpc xps
  by_cases a : j < 9
  · simp [a]
  · have : ¬ j + 7 < 9 := by omega
    simp only [a, if_false, this]
    omega
theorem xps_lt {k : Nat} (h : xk k) : xps k < 57 := by obtain ⟨h1, h2⟩ := h; unfold xps; split <;> omega
def xWd (U : xP) (M : xM) : va_W := (List.range 57).map (fun j => (xad U (xpc j), xce U (M (xpc j)) (xsh (xpc j))))
def xup (M : xM) (k : Nat) (f : Nat → Int32) : xM := fun i => if i = k then f else M i
/-- one number of one cell is another -/
def xset (M : xM) (k j : Nat) (x : Int32) : xM := xup M k (upd (M k) j x)
def xDi (U : xP) : Prop := ∀ i j : Nat, xk i → xk j → xad U i = xad U j → i = j
def xA (U : xP) : Addr → Prop := fun q => ∃ k : Nat, xk k ∧ q = xad U k
theorem xWd_at (U : xP) (M : xM) {j : Nat} (h : j < 57) : (xWd U M)[j]? = some (xad U (xpc j), xce U (M (xpc j)) (xsh (xpc j))) := by
  simp [xWd, h]
theorem xWd_get (U : xP) (M : xM) {k : Nat} (h : xk k) : (xWd U M)[xps k]? = some (xad U k, xce U (M k) (xsh k)) := by
  rw [xWd_at U M (xps_lt h), xpc_ps h]
theorem xWd_len (U : xP) (M : xM) : (xWd U M).length = 57 := by simp [xWd]
theorem xWd_inv (U : xP) (M : xM) {k : Nat} {q : Nat × va_E} (h : (xWd U M)[k]? = some q) : xk (xpc k) ∧ q.1 = xad U (xpc k) := by
  have hk : k < 57 := by have := (List.getElem?_eq_some_iff.mp h).1; rw [xWd_len] at this; exact this
  rw [xWd_at U M hk] at h
  cases h
  exact ⟨xpc_k hk, rfl⟩
theorem xWd_set (U : xP) (M : xM) {k : Nat} (h : xk k) (f : Nat → Int32) : (xWd U M).set (xps k) (xad U k, xce U f (xsh k)) = xWd U (xup M k f) := by
  have hl := xps_lt h
  apply List.ext_getElem?
  intro i
  by_cases hi : i < 57
  · rw [xWd_at U _ hi, List.getElem?_set]
    by_cases e : xps k = i
    · subst e
      simp [xWd_len, hl, xup, xpc_ps h]
    · rw [if_neg e, xWd_at U M hi]
      have e2 : ¬ xpc i = k := fun z => e (by rw [← z, xps_pc])
      simp [xup, e2]
  · rw [List.getElem?_eq_none (by rw [List.length_set, xWd_len]; omega), List.getElem?_eq_none (by rw [xWd_len]; omega)]
theorem xDi.D {U : xP} (h : xDi U) (M : xM) {A : Nat → Prop} (hA : ∀ k : Nat, xk k → A (xad U k)) : va_D A (xWd U M) := by
  refine ⟨fun i j p q hi hj e => ?_, fun k q hk => ?_⟩
  · obtain ⟨a1, b1⟩ := xWd_inv U M hi
    obtain ⟨a2, b2⟩ := xWd_inv U M hj
    have := h _ _ a1 a2 (by rw [← b1, ← b2]; exact e)
    rw [← xps_pc i, ← xps_pc j, this]
  · obtain ⟨a1, b1⟩ := xWd_inv U M hk
    rw [b1]; exact hA _ a1
theorem xfv_get (U : xP) (f : Nat → Int32) (fs : List (Option Nat)) {j : Nat} (h : j < fs.length) : (xfv U f fs)[j]? = some (xfo U f fs j) := by
  simp [xfv, h]
theorem xfv_set (U : xP) (f : Nat → Int32) (fs : List (Option Nat)) {j : Nat} (h : fs[j]? = some none) (x : Int32) : (xfv U f fs).set j (.int x) = xfv U (upd f j x) fs := by
  have hj : j < fs.length := (List.getElem?_eq_some_iff.mp h).1
  apply List.ext_getElem?
  intro i
  by_cases hi : i < fs.length
  · rw [xfv_get U _ fs hi, List.getElem?_set]
    by_cases e : j = i
    · subst e
      have e1 : xfo U (upd f j x) fs j = .int x := by simp only [xfo, h]; simp [upd]
      rw [e1]
      simp [xfv, hj]
    · rw [if_neg e, xfv_get U f fs hi]
      have e2 : ¬ i = j := fun z => e z.symm
      simp only [xfo, upd, if_neg e2]
  · have hl : ∀ g, (xfv U g fs).length = fs.length := fun g => by simp [xfv]
    rw [List.getElem?_eq_none (by rw [List.length_set, hl]; omega), List.getElem?_eq_none (by rw [hl]; omega)]
/-! locals: a list, a place that isn't known is none -/
def xL (U : xP) (ls : Array Slot) (nL : Nat) (L : List (Option xV)) : Prop := ls.size = nL ∧ lv_wf ls ∧ ∀ (i : Nat) (v : xV), L[i]? = some (some v) → ls[i]? = some (.val (xcv U v))
def xas (U : xP) (L : List (Option xV)) : List (Nat × Value) := (List.range L.length).filterMap (fun i => (L[i]?.join).map (fun v => (i, xcv U v)))
theorem xas_mem {U : xP} {L : List (Option xV)} {i : Nat} {v : xV} (h : L[i]? = some (some v)) : (i, xcv U v) ∈ xas U L := by
  refine List.mem_filterMap.mpr ⟨i, List.mem_range.mpr (List.getElem?_eq_some_iff.mp h).1, ?_⟩
  simp [h]
theorem xas_has {U : xP} {ls : Array Slot} {nL : Nat} {L : List (Option xV)} (h : xL U ls nL L) : lv_has ls nL (xas U L) := by
  refine ⟨h.1, h.2.1, fun q hq => ?_⟩
  obtain ⟨i, -, hi⟩ := List.mem_filterMap.mp hq
  cases e : L[i]? with
  | none => simp [e] at hi
  | some o =>
    cases o with
    | none => simp [e] at hi
    | some v =>
      simp [e] at hi
      rw [← hi]
      exact h.2.2 i v e
theorem xcv_cat (U : xP) (v : xV) : (xcv U v).category = 1 := by cases v <;> rfl
theorem xL.set {U : xP} {ls' : Array Slot} {nL i : Nat} {x : Int32} {L : List (Option xV)} {lv : List (Nat × Value)} (hlv : ∀ (j : Nat) (v : xV), L[j]? = some (some v) → j ≠ i → (j, xcv U v) ∈ lv) (h : lv_has ls' nL ((i, Value.int x) :: lv.filter (fun q => !(q.1 == i) && !(q.1 + 1 == i && q.2.category == 2)))) : xL U ls' nL (L.set i (some (.inl x))) := by
  refine ⟨h.1, h.2.1, fun j v hj => ?_⟩
  rw [List.getElem?_set] at hj
  by_cases e : i = j
  · subst e
    simp at hj
    obtain ⟨-, rfl⟩ := hj
    exact h.2.2 (i, Value.int x) List.mem_cons_self
  · rw [if_neg e] at hj
    have e2 : j ≠ i := fun z => e z.symm
    refine h.2.2 (j, xcv U v) (List.mem_cons_of_mem _ (List.mem_filter.mpr ⟨hlv j v hj e2, ?_⟩))
    simp [e2, xcv_cat]
theorem xL.entry (U : xP) (av : List xV) {n : Nat} (h : av.length ≤ n) : xL U ((lg_sl (av.map (xcv U)) ++ List.replicate (n - (lg_sl (av.map (xcv U))).length) Slot.unset).toArray) n (av.map some ++ List.replicate (n - av.length) none) := by
  have hsl : ∀ w : List xV, lg_sl (w.map (xcv U)) = w.map (fun v => Slot.val (xcv U v)) := by
    intro w
    induction w with
    | nil => rfl
    | cons a w ih =>
      have : lg_sl ((a :: w).map (xcv U)) = (if (xcv U a).category = 2 then [Slot.val (xcv U a), .second] else [Slot.val (xcv U a)]) ++ lg_sl (w.map (xcv U)) := rfl
      rw [this, ih, xcv_cat]
      rfl
  have h1 := lv_entry (av.map (xcv U)) (n := n) (by rw [hsl]; simpa using h)
  refine ⟨h1.1, h1.2.1, fun i v hi => ?_⟩
  have hi2 : i < av.length ∧ av[i]? = some v := by
    by_cases hl : i < av.length
    · rw [List.getElem?_append_left (by simpa using hl), List.getElem?_map] at hi
      refine ⟨hl, ?_⟩
      cases e : av[i]? with
      | none => simp [e] at hi
      | some w => simp [e] at hi; rw [hi]
    · rw [List.getElem?_append_right (by simp; omega), List.getElem?_replicate] at hi
      split at hi <;> simp at hi
  rw [hsl]
  simp only [List.getElem?_toArray]
  rw [List.getElem?_append_left (by simpa using hi2.1), List.getElem?_map, hi2.2]
  rfl
/-! the place where a method stands -/
abbrev xG : Type := Program × Env × Room × State × MethodId × Array Value × List Frame × Method × Code × (Nat → Prop) × Nat × Nat × Nat × (State → Prop)
def XW (U : xP) (G : xG) (pc : Nat) (L : List (Option xV)) (st : List xV) (M : xM) : Prop := match G with
  | (p, e, R, s, m, args, below, meth, c, A0, nL, cs, sl, Q) => ∀ (H : Heap) (locs : List Loc) (ls : Array Slot), va_P (xD U) classes (xWd U M) H → va_S A0 s.heap H locs → xL U ls nL L → W p (xl U) e R s m args below meth c H locs cs sl Q (F0 m pc ls (st.map (xcv U)))
/-- what holds all the way: the machine, the bytes, the class, the words, the world's shape, the room for calls of less than K deep -/
def xOK (U : xP) (G : xG) (own : String) (cc : ByteArray) (K : Nat) : Prop := match G with
  | (p, e, R, s, m, args, below, meth, c, A0, nL, cs, sl, Q) => p.tables.exec = Jvm.exec ∧ c.code = cc ∧ c.maxLocals = nL ∧ s.vm.findClass own = some m.cls ∧ (∀ w ∈ gw, w.before args s = true) ∧ va_K (xD U) classes (xtys U) s ∧ xDi U ∧ (∀ w ∈ xnw, va_Nw w s) ∧ (∀ k : Nat, xk k → A0 (xad U k)) ∧ K ≤ R.frames ∧ 34 * K ≤ R.locals ∧ cs ≤ R.cells ∧ sl ≤ R.slots
section XR
variable {U : xP} {G : xG} {own : String} {cc : ByteArray} {K pc : Nat} {L : List (Option xV)} {st : List xV} {M : xM}
theorem x_iload_n (hO : xOK U G own cc K) {k : Fin 4} {i : Nat} {x : Int32} (hd : decode cc pc = .ok (.iload_n k, 1)) (hi : (k : Nat) = i) (hl : L[i]? = some (some (.inl x))) (kk : XW U G (pc + 1) L (.inl x :: st) M) : XW U G pc L st M := by
  obtain ⟨p, e, R, s, m, args, below, meth, c, A0, nL, cs, sl, Q⟩ := G
  intro H locs ls hP hS hL
  exact lv_iload_n hO.1 hO.2.1 hd hi (hL.2.2 i _ hl) (kk H locs ls hP hS hL)
theorem x_iload (hO : xOK U G own cc K) {i : Nat} {x : Int32} (hd : decode cc pc = .ok (.iload i, 2)) (hl : L[i]? = some (some (.inl x))) (kk : XW U G (pc + 2) L (.inl x :: st) M) : XW U G pc L st M := by
  obtain ⟨p, e, R, s, m, args, below, meth, c, A0, nL, cs, sl, Q⟩ := G
  intro H locs ls hP hS hL
  exact lv_iload hO.1 hO.2.1 hd (hL.2.2 i _ hl) (kk H locs ls hP hS hL)
theorem x_aload_n (hO : xOK U G own cc K) {k : Fin 4} {i : Nat} {x : Nat} (hd : decode cc pc = .ok (.aload_n k, 1)) (hi : (k : Nat) = i) (hl : L[i]? = some (some (.inr x))) (kk : XW U G (pc + 1) L (.inr x :: st) M) : XW U G pc L st M := by
  obtain ⟨p, e, R, s, m, args, below, meth, c, A0, nL, cs, sl, Q⟩ := G
  intro H locs ls hP hS hL
  exact lv_aload_n hO.1 hO.2.1 hd hi (hL.2.2 i _ hl) (kk H locs ls hP hS hL)
theorem x_aload (hO : xOK U G own cc K) {i : Nat} {x : Nat} (hd : decode cc pc = .ok (.aload i, 2)) (hl : L[i]? = some (some (.inr x))) (kk : XW U G (pc + 2) L (.inr x :: st) M) : XW U G pc L st M := by
  obtain ⟨p, e, R, s, m, args, below, meth, c, A0, nL, cs, sl, Q⟩ := G
  intro H locs ls hP hS hL
  exact lv_aload hO.1 hO.2.1 hd (hL.2.2 i _ hl) (kk H locs ls hP hS hL)
theorem x_istore_n (hO : xOK U G own cc K) {k : Fin 4} {i n : Nat} {x : Int32} (hd : decode cc pc = .ok (.istore_n k, 1)) (hi : (k : Nat) = i) (hn : L.length = n) (hN : i < n) (hG : G.2.2.2.2.2.2.2.2.2.2.1 = n) (kk : XW U G (pc + 1) (L.set i (some (.inl x))) st M) : XW U G pc L (.inl x :: st) M := by
  obtain ⟨p, e, R, s, m, args, below, meth, c, A0, nL, cs, sl, Q⟩ := G
  intro H locs ls hP hS hL
  exact lv_istore_n hO.1 hO.2.1 hd hi (xas_has hL) (by rw [show nL = n from hG]; exact hN) rfl (fun ls' h => kk H locs ls' hP hS (xL.set (fun j v hj _ => xas_mem hj) h))
theorem x_istore (hO : xOK U G own cc K) {i n : Nat} {x : Int32} (hd : decode cc pc = .ok (.istore i, 2)) (hn : L.length = n) (hN : i < n) (hG : G.2.2.2.2.2.2.2.2.2.2.1 = n) (kk : XW U G (pc + 2) (L.set i (some (.inl x))) st M) : XW U G pc L (.inl x :: st) M := by
  obtain ⟨p, e, R, s, m, args, below, meth, c, A0, nL, cs, sl, Q⟩ := G
  intro H locs ls hP hS hL
  exact lv_istore hO.1 hO.2.1 hd (xas_has hL) (by rw [show nL = n from hG]; exact hN) rfl (fun ls' h => kk H locs ls' hP hS (xL.set (fun j v hj _ => xas_mem hj) h))
theorem x_iinc (hO : xOK U G own cc K) {i n : Nat} {z : Int} {x v : Int32} (hd : decode cc pc = .ok (.iinc i z, 3)) (hl : L[i]? = some (some (.inl x))) (hv : x + Int32.ofInt z = v) (hn : L.length = n) (hG : G.2.2.2.2.2.2.2.2.2.2.1 = n) (kk : XW U G (pc + 3) (L.set i (some (.inl v))) st M) : XW U G pc L st M := by
  obtain ⟨p, e, R, s, m, args, below, meth, c, A0, nL, cs, sl, Q⟩ := G
  intro H locs ls hP hS hL
  have h1 : lv_has ls nL ((i, Value.int x) :: xas U L) := ⟨hL.1, hL.2.1, fun q hq => by
    rcases List.mem_cons.mp hq with rfl | h
    · exact hL.2.2 i (.inl x) hl
    · exact (xas_has hL).2.2 q h⟩
  exact lv_iinc (k := 0) hO.1 hO.2.1 hd h1 rfl hv (by rw [show nL = n from hG, ← hn]; exact (List.getElem?_eq_some_iff.mp hl).1) rfl (fun ls' h => kk H locs ls' hP hS (xL.set (fun j w hj _ => List.mem_cons_of_mem _ (xas_mem hj)) h))
theorem x_iconst (hO : xOK U G own cc K) {z : Int} {v : Int32} (hd : decode cc pc = .ok (.iconst z, 1)) (hv : Int32.ofInt z = v) (kk : XW U G (pc + 1) L (.inl v :: st) M) : XW U G pc L st M := by
  obtain ⟨p, e, R, s, m, args, below, meth, c, A0, nL, cs, sl, Q⟩ := G
  intro H locs ls hP hS hL
  exact lv_iconst hO.1 hO.2.1 hd hv (kk H locs ls hP hS hL)
theorem x_bipush (hO : xOK U G own cc K) {z : Int} {v : Int32} (hd : decode cc pc = .ok (.bipush z, 2)) (hv : (Int8.ofInt z).toInt32 = v) (kk : XW U G (pc + 2) L (.inl v :: st) M) : XW U G pc L st M := by
  obtain ⟨p, e, R, s, m, args, below, meth, c, A0, nL, cs, sl, Q⟩ := G
  intro H locs ls hP hS hL
  exact lv_bipush hO.1 hO.2.1 hd hv (kk H locs ls hP hS hL)
theorem x_sipush (hO : xOK U G own cc K) {z : Int} {v : Int32} (hd : decode cc pc = .ok (.sipush z, 3)) (hv : (Int16.ofInt z).toInt32 = v) (kk : XW U G (pc + 3) L (.inl v :: st) M) : XW U G pc L st M := by
  obtain ⟨p, e, R, s, m, args, below, meth, c, A0, nL, cs, sl, Q⟩ := G
  intro H locs ls hP hS hL
  exact lv_sipush hO.1 hO.2.1 hd hv (kk H locs ls hP hS hL)
theorem x_ldcw (hO : xOK U G own cc K) {index : Nat} {v : Int32} (hc : Cond.constant own index v ∈ gw) (hd : decode cc pc = .ok (.ldc_w index, 3)) (kk : XW U G (pc + 3) L (.inl v :: st) M) : XW U G pc L st M := by
  obtain ⟨p, e, R, s, m, args, below, meth, c, A0, nL, cs, sl, Q⟩ := G
  intro H locs ls hP hS hL
  exact lv_ldcw hO.1 hO.2.1 hO.2.2.2.1 (hO.2.2.2.2.1 _ hc) hd (kk H locs ls hP hS hL)
theorem x_iadd (hO : xOK U G own cc K) {x y : Int32} (hd : decode cc pc = .ok (.iadd, 1)) (kk : XW U G (pc + 1) L (.inl (x + y) :: st) M) : XW U G pc L (.inl y :: .inl x :: st) M := by
  obtain ⟨p, e, R, s, m, args, below, meth, c, A0, nL, cs, sl, Q⟩ := G
  intro H locs ls hP hS hL
  exact lv_iadd hO.1 hO.2.1 hd (kk H locs ls hP hS hL)
theorem x_isub (hO : xOK U G own cc K) {x y : Int32} (hd : decode cc pc = .ok (.isub, 1)) (kk : XW U G (pc + 1) L (.inl (x - y) :: st) M) : XW U G pc L (.inl y :: .inl x :: st) M := by
  obtain ⟨p, e, R, s, m, args, below, meth, c, A0, nL, cs, sl, Q⟩ := G
  intro H locs ls hP hS hL
  exact lv_isub hO.1 hO.2.1 hd (kk H locs ls hP hS hL)
theorem x_imul (hO : xOK U G own cc K) {x y : Int32} (hd : decode cc pc = .ok (.imul, 1)) (kk : XW U G (pc + 1) L (.inl (x * y) :: st) M) : XW U G pc L (.inl y :: .inl x :: st) M := by
  obtain ⟨p, e, R, s, m, args, below, meth, c, A0, nL, cs, sl, Q⟩ := G
  intro H locs ls hP hS hL
  exact lv_imul hO.1 hO.2.1 hd (kk H locs ls hP hS hL)
theorem x_iand (hO : xOK U G own cc K) {x y : Int32} (hd : decode cc pc = .ok (.iand, 1)) (kk : XW U G (pc + 1) L (.inl (x &&& y) :: st) M) : XW U G pc L (.inl y :: .inl x :: st) M := by
  obtain ⟨p, e, R, s, m, args, below, meth, c, A0, nL, cs, sl, Q⟩ := G
  intro H locs ls hP hS hL
  exact lv_iand hO.1 hO.2.1 hd (kk H locs ls hP hS hL)
theorem x_ior (hO : xOK U G own cc K) {x y : Int32} (hd : decode cc pc = .ok (.ior, 1)) (kk : XW U G (pc + 1) L (.inl (x ||| y) :: st) M) : XW U G pc L (.inl y :: .inl x :: st) M := by
  obtain ⟨p, e, R, s, m, args, below, meth, c, A0, nL, cs, sl, Q⟩ := G
  intro H locs ls hP hS hL
  exact lv_ior hO.1 hO.2.1 hd (kk H locs ls hP hS hL)
theorem x_ixor (hO : xOK U G own cc K) {x y : Int32} (hd : decode cc pc = .ok (.ixor, 1)) (kk : XW U G (pc + 1) L (.inl (x ^^^ y) :: st) M) : XW U G pc L (.inl y :: .inl x :: st) M := by
  obtain ⟨p, e, R, s, m, args, below, meth, c, A0, nL, cs, sl, Q⟩ := G
  intro H locs ls hP hS hL
  exact lv_ixor hO.1 hO.2.1 hd (kk H locs ls hP hS hL)
theorem x_ishl (hO : xOK U G own cc K) {x y : Int32} (hd : decode cc pc = .ok (.ishl, 1)) (kk : XW U G (pc + 1) L (.inl (x <<< (y &&& 31)) :: st) M) : XW U G pc L (.inl y :: .inl x :: st) M := by
  obtain ⟨p, e, R, s, m, args, below, meth, c, A0, nL, cs, sl, Q⟩ := G
  intro H locs ls hP hS hL
  exact lv_ishl hO.1 hO.2.1 hd (kk H locs ls hP hS hL)
theorem x_ishr (hO : xOK U G own cc K) {x y : Int32} (hd : decode cc pc = .ok (.ishr, 1)) (kk : XW U G (pc + 1) L (.inl (x >>> (y &&& 31)) :: st) M) : XW U G pc L (.inl y :: .inl x :: st) M := by
  obtain ⟨p, e, R, s, m, args, below, meth, c, A0, nL, cs, sl, Q⟩ := G
  intro H locs ls hP hS hL
  exact lv_ishr hO.1 hO.2.1 hd (kk H locs ls hP hS hL)
theorem x_icmp_eq (hO : xOK U G own cc K) {x y : Int32} {off : Int} {tgt : Nat} (hd : decode cc pc = .ok (.if_icmp .eq off, 3)) (ht : (pc : Int) + off = (tgt : Int)) (kt : x = y → XW U G tgt L st M) (kf : ¬ (x = y) → XW U G (pc + 3) L st M) : XW U G pc L (.inl y :: .inl x :: st) M := by
  obtain ⟨p, e, R, s, m, args, below, meth, c, A0, nL, cs, sl, Q⟩ := G
  intro H locs ls hP hS hL
  exact lv_icmp_eq hO.1 hO.2.1 hd ht (fun q => kt q H locs ls hP hS hL) (fun q => kf q H locs ls hP hS hL)
theorem x_if_eq (hO : xOK U G own cc K) {x : Int32} {off : Int} {tgt : Nat} (hd : decode cc pc = .ok (.ifCond .eq off, 3)) (ht : (pc : Int) + off = (tgt : Int)) (kt : x = 0 → XW U G tgt L st M) (kf : ¬ (x = 0) → XW U G (pc + 3) L st M) : XW U G pc L (.inl x :: st) M := by
  obtain ⟨p, e, R, s, m, args, below, meth, c, A0, nL, cs, sl, Q⟩ := G
  intro H locs ls hP hS hL
  exact lv_if_eq hO.1 hO.2.1 hd ht (fun q => kt q H locs ls hP hS hL) (fun q => kf q H locs ls hP hS hL)
theorem x_icmp_ne (hO : xOK U G own cc K) {x y : Int32} {off : Int} {tgt : Nat} (hd : decode cc pc = .ok (.if_icmp .ne off, 3)) (ht : (pc : Int) + off = (tgt : Int)) (kt : x ≠ y → XW U G tgt L st M) (kf : x = y → XW U G (pc + 3) L st M) : XW U G pc L (.inl y :: .inl x :: st) M := by
  obtain ⟨p, e, R, s, m, args, below, meth, c, A0, nL, cs, sl, Q⟩ := G
  intro H locs ls hP hS hL
  exact lv_icmp_ne hO.1 hO.2.1 hd ht (fun q => kt q H locs ls hP hS hL) (fun q => kf q H locs ls hP hS hL)
theorem x_if_ne (hO : xOK U G own cc K) {x : Int32} {off : Int} {tgt : Nat} (hd : decode cc pc = .ok (.ifCond .ne off, 3)) (ht : (pc : Int) + off = (tgt : Int)) (kt : x ≠ 0 → XW U G tgt L st M) (kf : x = 0 → XW U G (pc + 3) L st M) : XW U G pc L (.inl x :: st) M := by
  obtain ⟨p, e, R, s, m, args, below, meth, c, A0, nL, cs, sl, Q⟩ := G
  intro H locs ls hP hS hL
  exact lv_if_ne hO.1 hO.2.1 hd ht (fun q => kt q H locs ls hP hS hL) (fun q => kf q H locs ls hP hS hL)
theorem x_icmp_lt (hO : xOK U G own cc K) {x y : Int32} {off : Int} {tgt : Nat} (hd : decode cc pc = .ok (.if_icmp .lt off, 3)) (ht : (pc : Int) + off = (tgt : Int)) (kt : x < y → XW U G tgt L st M) (kf : ¬ (x < y) → XW U G (pc + 3) L st M) : XW U G pc L (.inl y :: .inl x :: st) M := by
  obtain ⟨p, e, R, s, m, args, below, meth, c, A0, nL, cs, sl, Q⟩ := G
  intro H locs ls hP hS hL
  exact lv_icmp_lt hO.1 hO.2.1 hd ht (fun q => kt q H locs ls hP hS hL) (fun q => kf q H locs ls hP hS hL)
theorem x_if_lt (hO : xOK U G own cc K) {x : Int32} {off : Int} {tgt : Nat} (hd : decode cc pc = .ok (.ifCond .lt off, 3)) (ht : (pc : Int) + off = (tgt : Int)) (kt : x < 0 → XW U G tgt L st M) (kf : ¬ (x < 0) → XW U G (pc + 3) L st M) : XW U G pc L (.inl x :: st) M := by
  obtain ⟨p, e, R, s, m, args, below, meth, c, A0, nL, cs, sl, Q⟩ := G
  intro H locs ls hP hS hL
  exact lv_if_lt hO.1 hO.2.1 hd ht (fun q => kt q H locs ls hP hS hL) (fun q => kf q H locs ls hP hS hL)
theorem x_icmp_ge (hO : xOK U G own cc K) {x y : Int32} {off : Int} {tgt : Nat} (hd : decode cc pc = .ok (.if_icmp .ge off, 3)) (ht : (pc : Int) + off = (tgt : Int)) (kt : y ≤ x → XW U G tgt L st M) (kf : ¬ (y ≤ x) → XW U G (pc + 3) L st M) : XW U G pc L (.inl y :: .inl x :: st) M := by
  obtain ⟨p, e, R, s, m, args, below, meth, c, A0, nL, cs, sl, Q⟩ := G
  intro H locs ls hP hS hL
  exact lv_icmp_ge hO.1 hO.2.1 hd ht (fun q => kt q H locs ls hP hS hL) (fun q => kf q H locs ls hP hS hL)
theorem x_if_ge (hO : xOK U G own cc K) {x : Int32} {off : Int} {tgt : Nat} (hd : decode cc pc = .ok (.ifCond .ge off, 3)) (ht : (pc : Int) + off = (tgt : Int)) (kt : 0 ≤ x → XW U G tgt L st M) (kf : ¬ (0 ≤ x) → XW U G (pc + 3) L st M) : XW U G pc L (.inl x :: st) M := by
  obtain ⟨p, e, R, s, m, args, below, meth, c, A0, nL, cs, sl, Q⟩ := G
  intro H locs ls hP hS hL
  exact lv_if_ge hO.1 hO.2.1 hd ht (fun q => kt q H locs ls hP hS hL) (fun q => kf q H locs ls hP hS hL)
theorem x_icmp_gt (hO : xOK U G own cc K) {x y : Int32} {off : Int} {tgt : Nat} (hd : decode cc pc = .ok (.if_icmp .gt off, 3)) (ht : (pc : Int) + off = (tgt : Int)) (kt : y < x → XW U G tgt L st M) (kf : ¬ (y < x) → XW U G (pc + 3) L st M) : XW U G pc L (.inl y :: .inl x :: st) M := by
  obtain ⟨p, e, R, s, m, args, below, meth, c, A0, nL, cs, sl, Q⟩ := G
  intro H locs ls hP hS hL
  exact lv_icmp_gt hO.1 hO.2.1 hd ht (fun q => kt q H locs ls hP hS hL) (fun q => kf q H locs ls hP hS hL)
theorem x_if_gt (hO : xOK U G own cc K) {x : Int32} {off : Int} {tgt : Nat} (hd : decode cc pc = .ok (.ifCond .gt off, 3)) (ht : (pc : Int) + off = (tgt : Int)) (kt : 0 < x → XW U G tgt L st M) (kf : ¬ (0 < x) → XW U G (pc + 3) L st M) : XW U G pc L (.inl x :: st) M := by
  obtain ⟨p, e, R, s, m, args, below, meth, c, A0, nL, cs, sl, Q⟩ := G
  intro H locs ls hP hS hL
  exact lv_if_gt hO.1 hO.2.1 hd ht (fun q => kt q H locs ls hP hS hL) (fun q => kf q H locs ls hP hS hL)
theorem x_icmp_le (hO : xOK U G own cc K) {x y : Int32} {off : Int} {tgt : Nat} (hd : decode cc pc = .ok (.if_icmp .le off, 3)) (ht : (pc : Int) + off = (tgt : Int)) (kt : x ≤ y → XW U G tgt L st M) (kf : ¬ (x ≤ y) → XW U G (pc + 3) L st M) : XW U G pc L (.inl y :: .inl x :: st) M := by
  obtain ⟨p, e, R, s, m, args, below, meth, c, A0, nL, cs, sl, Q⟩ := G
  intro H locs ls hP hS hL
  exact lv_icmp_le hO.1 hO.2.1 hd ht (fun q => kt q H locs ls hP hS hL) (fun q => kf q H locs ls hP hS hL)
theorem x_if_le (hO : xOK U G own cc K) {x : Int32} {off : Int} {tgt : Nat} (hd : decode cc pc = .ok (.ifCond .le off, 3)) (ht : (pc : Int) + off = (tgt : Int)) (kt : x ≤ 0 → XW U G tgt L st M) (kf : ¬ (x ≤ 0) → XW U G (pc + 3) L st M) : XW U G pc L (.inl x :: st) M := by
  obtain ⟨p, e, R, s, m, args, below, meth, c, A0, nL, cs, sl, Q⟩ := G
  intro H locs ls hP hS hL
  exact lv_if_le hO.1 hO.2.1 hd ht (fun q => kt q H locs ls hP hS hL) (fun q => kf q H locs ls hP hS hL)
theorem x_idiv (hO : xOK U G own cc K) {x y : Int32} (hd : decode cc pc = .ok (.idiv, 1)) (hne : ¬ y = 0) (kk : XW U G (pc + 1) L (.inl (x / y) :: st) M) : XW U G pc L (.inl y :: .inl x :: st) M := by
  obtain ⟨p, e, R, s, m, args, below, meth, c, A0, nL, cs, sl, Q⟩ := G
  intro H locs ls hP hS hL
  exact lv_idiv hO.1 hO.2.1 hd hne (kk H locs ls hP hS hL)
theorem x_irem (hO : xOK U G own cc K) {x y : Int32} (hd : decode cc pc = .ok (.irem, 1)) (hne : ¬ y = 0) (kk : XW U G (pc + 1) L (.inl (x - x / y * y) :: st) M) : XW U G pc L (.inl y :: .inl x :: st) M := by
  obtain ⟨p, e, R, s, m, args, below, meth, c, A0, nL, cs, sl, Q⟩ := G
  intro H locs ls hP hS hL
  exact lv_irem hO.1 hO.2.1 hd hne (kk H locs ls hP hS hL)
theorem x_iushr (hO : xOK U G own cc K) {x y v : Int32} (hd : decode cc pc = .ok (.iushr, 1)) (hv : (x.toUInt32 >>> (y.toUInt32 &&& Int32.toUInt32 31)).toInt32 = v) (kk : XW U G (pc + 1) L (.inl v :: st) M) : XW U G pc L (.inl y :: .inl x :: st) M := by
  obtain ⟨p, e, R, s, m, args, below, meth, c, A0, nL, cs, sl, Q⟩ := G
  intro H locs ls hP hS hL
  exact lv_iushr hO.1 hO.2.1 hd hv (kk H locs ls hP hS hL)
theorem x_i2c (hO : xOK U G own cc K) {x v : Int32} (hd : decode cc pc = .ok (.i2c, 1)) (hv : (x.toUInt32 % 65536).toInt32 = v) (kk : XW U G (pc + 1) L (.inl v :: st) M) : XW U G pc L (.inl x :: st) M := by
  obtain ⟨p, e, R, s, m, args, below, meth, c, A0, nL, cs, sl, Q⟩ := G
  intro H locs ls hP hS hL
  exact lv_i2c hO.1 hO.2.1 hd hv (kk H locs ls hP hS hL)
theorem x_dup (hO : xOK U G own cc K) {v : xV} (hd : decode cc pc = .ok (.dup, 1)) (kk : XW U G (pc + 1) L (v :: v :: st) M) : XW U G pc L (v :: st) M := by
  obtain ⟨p, e, R, s, m, args, below, meth, c, A0, nL, cs, sl, Q⟩ := G
  intro H locs ls hP hS hL
  exact lv_dup hO.1 hO.2.1 hd (xcv_cat U v) (kk H locs ls hP hS hL)
theorem x_dup2 (hO : xOK U G own cc K) {v w : xV} (hd : decode cc pc = .ok (.dup2, 1)) (kk : XW U G (pc + 1) L (v :: w :: v :: w :: st) M) : XW U G pc L (v :: w :: st) M := by
  obtain ⟨p, e, R, s, m, args, below, meth, c, A0, nL, cs, sl, Q⟩ := G
  intro H locs ls hP hS hL
  exact lv_dup2_11 hO.1 hO.2.1 hd (xcv_cat U v) (xcv_cat U w) (kk H locs ls hP hS hL)
theorem x_pop (hO : xOK U G own cc K) {v : xV} (hd : decode cc pc = .ok (.pop, 1)) (kk : XW U G (pc + 1) L st M) : XW U G pc L (v :: st) M := by
  obtain ⟨p, e, R, s, m, args, below, meth, c, A0, nL, cs, sl, Q⟩ := G
  intro H locs ls hP hS hL
  exact lv_pop hO.1 hO.2.1 hd (xcv_cat U v) (kk H locs ls hP hS hL)
theorem x_goto (hO : xOK U G own cc K) {off : Int} {tgt : Nat} (hd : decode cc pc = .ok (.goto off, 3)) (ht : (pc : Int) + off = (tgt : Int)) (kk : XW U G tgt L st M) : XW U G pc L st M := by
  obtain ⟨p, e, R, s, m, args, below, meth, c, A0, nL, cs, sl, Q⟩ := G
  intro H locs ls hP hS hL
  exact lv_goto hO.1 hO.2.1 hd ht (kk H locs ls hP hS hL)
theorem x_ifnull (hO : xOK U G own cc K) {off : Int} {k : Nat} (hd : decode cc pc = .ok (.ifnull off, 3)) (kk : XW U G (pc + 3) L st M) : XW U G pc L (.inr k :: st) M := by
  obtain ⟨p, e, R, s, m, args, below, meth, c, A0, nL, cs, sl, Q⟩ := G
  intro H locs ls hP hS hL
  exact lv_ifnull hO.1 hO.2.1 hd (kk H locs ls hP hS hL)
theorem x_tableIn (hO : xOK U G own cc K) {dflt lo hi : Int} {offs : Array Int} {len : Nat} {x : Int32} {off : Int} {tgt : Nat} (hd : decode cc pc = .ok (.tableswitch dflt lo hi offs, len)) (h1 : ¬ x.toInt < lo) (h2 : ¬ hi < x.toInt) (ho : offs[(x.toInt - lo).toNat]? = some off) (ht : (pc : Int) + off = (tgt : Int)) (kk : XW U G tgt L st M) : XW U G pc L (.inl x :: st) M := by
  obtain ⟨p, e, R, s, m, args, below, meth, c, A0, nL, cs, sl, Q⟩ := G
  intro H locs ls hP hS hL
  exact lv_tableIn hO.1 hO.2.1 hd h1 h2 ho ht (kk H locs ls hP hS hL)
theorem x_tableOut (hO : xOK U G own cc K) {dflt lo hi : Int} {offs : Array Int} {len : Nat} {x : Int32} {tgt : Nat} (hd : decode cc pc = .ok (.tableswitch dflt lo hi offs, len)) (h : x.toInt < lo ∨ hi < x.toInt) (ht : (pc : Int) + dflt = (tgt : Int)) (kk : XW U G tgt L st M) : XW U G pc L (.inl x :: st) M := by
  obtain ⟨p, e, R, s, m, args, below, meth, c, A0, nL, cs, sl, Q⟩ := G
  intro H locs ls hP hS hL
  exact lv_tableOut hO.1 hO.2.1 hd h ht (kk H locs ls hP hS hL)
theorem x_iald0 (hO : xOK U G own cc K) {k n : Nat} {i : Int32} (hk : xk k) (hs : xsh k = .inl n) (hin : vp_in i n) (hd : decode cc pc = .ok (.iaload, 1)) (kk : XW U G (pc + 1) L (.inl (M k i.toNatClampNeg) :: st) M) : XW U G pc L (.inl i :: .inr k :: st) M := by
  obtain ⟨p, e, R, s, m, args, below, meth, c, A0, nL, cs, sl, Q⟩ := G
  intro H locs ls hP hS hL
  exact va_iald hO.1 hO.2.1 hO.2.2.2.2.2.1 hP (xps k) 0 (cA := xcI U) (n := n) (f := M k) (by rw [xWd_get U M hk, hs]; rfl) rfl hin hd (kk H locs ls hP hS hL)
theorem x_alen (hO : xOK U G own cc K) {k n : Nat} (hk : xk k) (hs : xsh k = .inl n) (hd : decode cc pc = .ok (.arraylength, 1)) (kk : XW U G (pc + 1) L (.inl (nI n) :: st) M) : XW U G pc L (.inr k :: st) M := by
  obtain ⟨p, e, R, s, m, args, below, meth, c, A0, nL, cs, sl, Q⟩ := G
  intro H locs ls hP hS hL
  exact va_alen hO.1 hO.2.1 hO.2.2.2.2.2.1 hP (xps k) 0 (cA := xcI U) (x := (n, .inl (M k))) (ty := .int) (by rw [xWd_get U M hk, hs]; rfl) rfl rfl hd (kk H locs ls hP hS hL)
theorem x_aald (hO : xOK U G own cc K) {k t : Nat} {ts : List Nat} {i : Int32} (hk : xk k) (hs : xsh k = .inr (.inl ts)) (hin : vp_in i ts.length) (ht : ts[i.toNatClampNeg]? = some t) (hd : decode cc pc = .ok (.aaload, 1)) (kk : XW U G (pc + 1) L (.inr t :: st) M) : XW U G pc L (.inl i :: .inr k :: st) M := by
  obtain ⟨p, e, R, s, m, args, below, meth, c, A0, nL, cs, sl, Q⟩ := G
  intro H locs ls hP hS hL
  refine va_aldq hO.1 hO.2.1 hO.2.2.2.2.2.1 hP (xps k) 1 (cA := xcQ U) (C := RX1) (n := ts.length) (f := fun j => (ts[j]?).map (xad U)) (by rw [xWd_get U M hk, hs]; rfl) rfl hin hd ?_
  have := kk H locs ls hP hS hL
  simpa [ht, va_rf, xcv] using this
theorem x_iast0 (hO : xOK U G own cc K) {k n : Nat} {i x : Int32} (hk : xk k) (hs : xsh k = .inl n) (hin : vp_in i n) (hd : decode cc pc = .ok (.iastore, 1)) (kk : XW U G (pc + 1) L st (xset M k i.toNatClampNeg x)) : XW U G pc L (.inl x :: .inl i :: .inr k :: st) M := by
  obtain ⟨p, e, R, s, m, args, below, meth, c, A0, nL, cs, sl, Q⟩ := G
  intro H locs ls hP hS hL
  refine va_iast hO.1 hO.2.1 hO.2.2.2.2.2.1 hP (hO.2.2.2.2.2.2.1.D M hO.2.2.2.2.2.2.2.2.1) hS (xps k) 0 (cA := xcI U) (n := n) (f := M k) (by rw [xWd_get U M hk, hs]; rfl) rfl hin hd (fun H1 locs1 hP1 _ hS1 => ?_)
  refine kk H1 locs1 ls ?_ hS1 hL
  have e : (xad U k, (.inl (xcI U, n, .inl (upd (M k) i.toNatClampNeg x)) : va_E)) = (xad U k, xce U (upd (M k) i.toNatClampNeg x) (xsh k)) := by rw [hs]; rfl
  rw [e, xWd_set U M hk] at hP1
  exact hP1
theorem x_iald (hO : xOK U G own cc K) {k n j : Nat} {i : Int32} (hk : xk k) (hs : xsh k = .inl n) (hn : n < 2 ^ 31) (hi : i = nI j) (hj : j < n) (hd : decode cc pc = .ok (.iaload, 1)) (kk : XW U G (pc + 1) L (.inl (M k j) :: st) M) : XW U G pc L (.inl i :: .inr k :: st) M := by
  subst hi
  refine x_iald0 hO hk hs (vp_in_nI hj hn) hd ?_
  rw [nI_clamp (by omega)]
  exact kk
theorem x_iast (hO : xOK U G own cc K) {k n j : Nat} {i x : Int32} (hk : xk k) (hs : xsh k = .inl n) (hn : n < 2 ^ 31) (hi : i = nI j) (hj : j < n) (hd : decode cc pc = .ok (.iastore, 1)) (kk : XW U G (pc + 1) L st (xset M k j x)) : XW U G pc L (.inl x :: .inl i :: .inr k :: st) M := by
  subst hi
  refine x_iast0 hO hk hs (vp_in_nI hj hn) hd ?_
  rw [nI_clamp (by omega)]
  exact kk
def x_hin {ci : Nat} {q : vw_C} (h : classes[ci]? = some q) : ∀ w ∈ u_ws q.1 q.2.1 q.2.2, w ∈ gw := by
  match ci, h with
  | 0, h => cases h; exact iwX0
  | 1, h => cases h; exact iwX1
  | 2, h => cases h; exact iwX2
  | 3, h => cases h; exact iwX3
  | k + 4, h => simp [classes] at h
theorem x_tyn {ci : Nat} {q : vw_C} (h : classes[ci]? = some q) : ∃ ty0 : Nat → FieldType, (∀ k, k < q.2.2 → parseFieldDescriptor (q.2.1 k).2.2.1 = some (ty0 k)) ∧ (∀ a, a < q.2.2 → ∀ b, b < q.2.2 → a ≠ b → (q.2.1 a).2.1 ≠ (q.2.1 b).2.1) := by
  match ci, h with
  | 0, h => cases h; exact ⟨tyX0, tyX0_ok, nmX0⟩
  | 1, h => cases h; exact ⟨tyX1, tyX1_ok, nmX1⟩
  | 2, h => cases h; exact ⟨tyX2, tyX2_ok, nmX2⟩
  | 3, h => cases h; exact ⟨tyX3, tyX3_ok, nmX3⟩
  | k + 4, h => simp [classes] at h
theorem x_getI (hO : xOK U G own cc K) {k ci j N index : Nat} {fs : List (Option Nat)} {C : String} {T : u_T} (hd : decode cc pc = .ok (.getfield index, 3)) (hlk : Cond.fieldLink own index C (T j).2.1 (T j).2.2.1 ∈ gw) (hk : xk k) (hs : xsh k = .inr (.inr (ci, fs))) (hc : classes[ci]? = some (C, T, N)) (hj : j < N) (hC : (T j).1 = C) (hf : fs[j]? = some none) (kk : XW U G (pc + 3) L (.inl (M k j) :: st) M) : XW U G pc L (.inr k :: st) M := by
  obtain ⟨p, e, R, s, m, args, below, meth, c, A0, nL, cs, sl, Q⟩ := G
  intro H locs ls hP hS hL
  refine va_get (D := xD U) (ci := ci) (v := xcv U (.inl (M k j))) (C := C) (T := T) (N := N) hO.1 hO.2.1 hO.2.2.2.2.1 (x_hin hc) hO.2.2.2.1 hO.2.2.2.2.2.1 hP (xps k) (fs := xfv U (M k) fs) (by rw [xWd_get U M hk, hs]; rfl) hc j hj (hO.2.2.2.2.1 _ hlk) (fun x h => by rw [hC] at h; exact h) ?_ hd (kk H locs ls hP hS hL)
  rw [xfv_get U _ _ (List.getElem?_eq_some_iff.mp hf).1]
  simp only [xfo, hf, xcv]
theorem x_getR (hO : xOK U G own cc K) {k ci j N index : Nat} {t : Nat} {fs : List (Option Nat)} {C : String} {T : u_T} (hd : decode cc pc = .ok (.getfield index, 3)) (hlk : Cond.fieldLink own index C (T j).2.1 (T j).2.2.1 ∈ gw) (hk : xk k) (hs : xsh k = .inr (.inr (ci, fs))) (hc : classes[ci]? = some (C, T, N)) (hj : j < N) (hC : (T j).1 = C) (hf : fs[j]? = some (some t)) (kk : XW U G (pc + 3) L (.inr t :: st) M) : XW U G pc L (.inr k :: st) M := by
  obtain ⟨p, e, R, s, m, args, below, meth, c, A0, nL, cs, sl, Q⟩ := G
  intro H locs ls hP hS hL
  refine va_get (D := xD U) (ci := ci) (v := xcv U (.inr t)) (C := C) (T := T) (N := N) hO.1 hO.2.1 hO.2.2.2.2.1 (x_hin hc) hO.2.2.2.1 hO.2.2.2.2.2.1 hP (xps k) (fs := xfv U (M k) fs) (by rw [xWd_get U M hk, hs]; rfl) hc j hj (hO.2.2.2.2.1 _ hlk) (fun x h => by rw [hC] at h; exact h) ?_ hd (kk H locs ls hP hS hL)
  rw [xfv_get U _ _ (List.getElem?_eq_some_iff.mp hf).1]
  simp only [xfo, hf, xcv]
theorem x_getNI (hO : xOK U G own cc K) {k ci j N index : Nat} {fs : List (Option Nat)} {C host : String} {T : u_T} (hd : decode cc pc = .ok (.getfield index, 3)) (hlk : Cond.fieldLinkNest own index C (T j).2.1 (T j).2.2.1 host ∈ xnw) (hk : xk k) (hs : xsh k = .inr (.inr (ci, fs))) (hc : classes[ci]? = some (C, T, N)) (hj : j < N) (hC : (T j).1 = C) (hf : fs[j]? = some none) (kk : XW U G (pc + 3) L (.inl (M k j) :: st) M) : XW U G pc L (.inr k :: st) M := by
  obtain ⟨p, e, R, s, m, args, below, meth, c, A0, nL, cs, sl, Q⟩ := G
  intro H locs ls hP hS hL
  refine va_getN (D := xD U) (ci := ci) (v := xcv U (.inl (M k j))) (C := C) (T := T) (N := N) hO.1 hO.2.1 hO.2.2.2.2.1 (x_hin hc) hO.2.2.2.1 hO.2.2.2.2.2.1 hP (xps k) (fs := xfv U (M k) fs) (by rw [xWd_get U M hk, hs]; rfl) hc j hj (va_Nw.use rfl (hO.2.2.2.2.2.2.2.1 _ hlk)) (fun x h => by rw [hC] at h; exact h) ?_ hd (kk H locs ls hP hS hL)
  rw [xfv_get U _ _ (List.getElem?_eq_some_iff.mp hf).1]
  simp only [xfo, hf, xcv]
theorem x_getNR (hO : xOK U G own cc K) {k ci j N index : Nat} {t : Nat} {fs : List (Option Nat)} {C host : String} {T : u_T} (hd : decode cc pc = .ok (.getfield index, 3)) (hlk : Cond.fieldLinkNest own index C (T j).2.1 (T j).2.2.1 host ∈ xnw) (hk : xk k) (hs : xsh k = .inr (.inr (ci, fs))) (hc : classes[ci]? = some (C, T, N)) (hj : j < N) (hC : (T j).1 = C) (hf : fs[j]? = some (some t)) (kk : XW U G (pc + 3) L (.inr t :: st) M) : XW U G pc L (.inr k :: st) M := by
  obtain ⟨p, e, R, s, m, args, below, meth, c, A0, nL, cs, sl, Q⟩ := G
  intro H locs ls hP hS hL
  refine va_getN (D := xD U) (ci := ci) (v := xcv U (.inr t)) (C := C) (T := T) (N := N) hO.1 hO.2.1 hO.2.2.2.2.1 (x_hin hc) hO.2.2.2.1 hO.2.2.2.2.2.1 hP (xps k) (fs := xfv U (M k) fs) (by rw [xWd_get U M hk, hs]; rfl) hc j hj (va_Nw.use rfl (hO.2.2.2.2.2.2.2.1 _ hlk)) (fun x h => by rw [hC] at h; exact h) ?_ hd (kk H locs ls hP hS hL)
  rw [xfv_get U _ _ (List.getElem?_eq_some_iff.mp hf).1]
  simp only [xfo, hf, xcv]
theorem x_put (hO : xOK U G own cc K) {k ci j N index : Nat} {fs : List (Option Nat)} {C : String} {T : u_T} {ty : FieldType} {x : Int32} (hd : decode cc pc = .ok (.putfield index, 3)) (hlk : Cond.fieldLink own index C (T j).2.1 (T j).2.2.1 ∈ gw) (hk : xk k) (hs : xsh k = .inr (.inr (ci, fs))) (hc : classes[ci]? = some (C, T, N)) (hj : j < N) (hC : (T j).1 = C) (hf : fs[j]? = some none) (hfin : (T j).2.2.2 = false) (hty : parseFieldDescriptor (T j).2.2.1 = some ty) (hn : narrow ty (.int x) = .int x) (hfit : fits ty (.int x) = true) (kk : XW U G (pc + 3) L st (xset M k j x)) : XW U G pc L (.inl x :: .inr k :: st) M := by
  obtain ⟨p, e, R, s, m, args, below, meth, c, A0, nL, cs, sl, Q⟩ := G
  intro H locs ls hP hS hL
  obtain ⟨ty0, ht0, hnm⟩ := x_tyn hc
  refine va_put (D := xD U) (ci := ci) (v := .int x) (C := C) (T := T) (N := N) hO.1 hO.2.1 hO.2.2.2.2.1 (x_hin hc) ty0 ht0 hnm hO.2.2.2.1 hO.2.2.2.2.2.1 hP (hO.2.2.2.2.2.2.1.D M hO.2.2.2.2.2.2.2.2.1) hS (xps k) (fs := xfv U (M k) fs) (by rw [xWd_get U M hk, hs]; rfl) hc j hj (hO.2.2.2.2.1 _ hlk) (fun x h => by rw [hC] at h; exact h) hfin hty hn hfit (by simp only [xfv, List.length_map, List.length_range]; exact (List.getElem?_eq_some_iff.mp hf).1) hd (fun H1 locs1 hP1 _ hS1 => ?_)
  refine kk H1 locs1 ls ?_ hS1 hL
  have e : (xad U k, (.inr (ci, (xfv U (M k) fs).set j (.int x)) : va_E)) = (xad U k, xce U (upd (M k) j x) (xsh k)) := by rw [hs, xfv_set U _ _ hf]; rfl
  rw [e, xWd_set U M hk] at hP1
  exact hP1
theorem x_putN (hO : xOK U G own cc K) {k ci j N index : Nat} {fs : List (Option Nat)} {C host : String} {T : u_T} {ty : FieldType} {x : Int32} (hd : decode cc pc = .ok (.putfield index, 3)) (hlk : Cond.fieldLinkNest own index C (T j).2.1 (T j).2.2.1 host ∈ xnw) (hk : xk k) (hs : xsh k = .inr (.inr (ci, fs))) (hc : classes[ci]? = some (C, T, N)) (hj : j < N) (hC : (T j).1 = C) (hf : fs[j]? = some none) (hfin : (T j).2.2.2 = false) (hty : parseFieldDescriptor (T j).2.2.1 = some ty) (hn : narrow ty (.int x) = .int x) (hfit : fits ty (.int x) = true) (kk : XW U G (pc + 3) L st (xset M k j x)) : XW U G pc L (.inl x :: .inr k :: st) M := by
  obtain ⟨p, e, R, s, m, args, below, meth, c, A0, nL, cs, sl, Q⟩ := G
  intro H locs ls hP hS hL
  obtain ⟨ty0, ht0, hnm⟩ := x_tyn hc
  refine va_putN (D := xD U) (ci := ci) (v := .int x) (C := C) (T := T) (N := N) hO.1 hO.2.1 hO.2.2.2.2.1 (x_hin hc) ty0 ht0 hnm hO.2.2.2.1 hO.2.2.2.2.2.1 hP (hO.2.2.2.2.2.2.1.D M hO.2.2.2.2.2.2.2.2.1) hS (xps k) (fs := xfv U (M k) fs) (by rw [xWd_get U M hk, hs]; rfl) hc j hj (va_Nw.use rfl (hO.2.2.2.2.2.2.2.1 _ hlk)) (fun x h => by rw [hC] at h; exact h) hfin hty hn hfit (by simp only [xfv, List.length_map, List.length_range]; exact (List.getElem?_eq_some_iff.mp hf).1) hd (fun H1 locs1 hP1 _ hS1 => ?_)
  refine kk H1 locs1 ls ?_ hS1 hL
  have e : (xad U k, (.inr (ci, (xfv U (M k) fs).set j (.int x)) : va_E)) = (xad U k, xce U (upd (M k) j x) (xsh k)) := by rw [hs, xfv_set U _ _ hf]; rfl
  rw [e, xWd_set U M hk] at hP1
  exact hP1
end XR
/-! contracts -/
def xrm (k : Nat) : Room := { frames := k, cells := 0, slots := 0, locals := 34 * k }
def xPre (U : xP) (M : xM) : State → Prop := fun X => va_P (xD U) classes (xWd U M) X.heap ∧ va_K (xD U) classes (xtys U) X ∧ xDi U ∧ ∀ w ∈ xnw, va_Nw w X
def xPost (U : xP) : xM → State → Prop := fun M t => va_P (xD U) classes (xWd U M) t.heap
def xws (mi : xMI) : List Cond := Cond.code mi.1 mi.2.1 mi.2.2.1 mi.2.2.2.1 :: gw
/-- from the numbers M and these arguments: it returns an int, with the numbers M', of which post holds -/
def xMetI (U : xP) (mi : xMI) (av : List xV) (M : xM) (post : Int32 → xM → Prop) : Prop := Met (xl U) mi.1 (xws mi) (xrm mi.2.2.2.2) (va_Pc (av.map (xcv U)) (xPre U M)) (va_Qi post (xPost U) (xA U)) 0 0 (xA U)
def xMetV (U : xP) (mi : xMI) (av : List xV) (M : xM) (post : xM → Prop) : Prop := Met (xl U) mi.1 (xws mi) (xrm mi.2.2.2.2) (va_Pc (av.map (xcv U)) (xPre U M)) (va_Qv post (xPost U) (xA U)) 0 0 (xA U)
theorem xPre.blind {U : xP} {M : xM} {av : List Value} : FrameBlind (va_Pc av (xPre U M)) := fun a X g mk q => by
  obtain ⟨q0, q1, q2, q3, q4⟩ := q
  refine ⟨q0, q1, va_K.moved (u := X) (U := X.calling g mk a) (Vm.Alike.refl X.vm) q2, q3, fun w hw => ?_⟩
  have ht : w.onTables = true := by
    have := (List.mem_filter.mp hw).2
    cases w <;> first | rfl | (simp [xisNest] at this)
  exact va_Nw.same (u := X) (U := X.calling g mk a) ht rfl (q4 w hw)
theorem xPre.warm {U : xP} {M : xM} {s : State} {H : Heap} {X : State} (hX : X.heap = H) (hW : s.WarmedH X.vm) (hP : va_P (xD U) classes (xWd U M) H) (hK : va_K (xD U) classes (xtys U) s) (hDi : xDi U) (hn : ∀ w ∈ xnw, va_Nw w s) : xPre U M X := by
  refine ⟨by rw [hX]; exact hP, va_K.moved hW.alike hK, hDi, fun w hw => ?_⟩
  have h1 := hn w hw
  have h2 := (List.mem_filter.mp hw).2
  cases w <;> first | (simp [xisNest] at h2; done) | exact va_Nw.warmM hW h1 | exact va_Nw.warmF hW h1
theorem xws_good (mi : xMI) {n : Nat} (h : xCal mi n) : GoodIn gw (xws mi) := fun w hw => by
  rcases List.mem_cons.mp hw with rfl | hw
  · exact ⟨h.1, Or.inl rfl⟩
  · exact ⟨hw, good_of_word (List.mem_filter.mp hw).2⟩
section XC
variable {U : xP} {G : xG} {own : String} {cc : ByteArray} {K pc : Nat} {L : List (Option xV)} {st rest : List xV} {M : xM}
theorem x_room {R : Room} {k nL K : Nat} (h1 : K ≤ R.frames) (h2 : 34 * K ≤ R.locals) (hk : k < K) (hn : nL ≤ 15) : (xrm k).frames + 1 ≤ R.frames ∧ 8 + (nL + 11) + (xrm k).locals ≤ R.locals := by
  show k + 1 ≤ R.frames ∧ 8 + (nL + 11) + 34 * k ≤ R.locals
  omega
theorem x_rest (U : xP) : ∀ r : List xV, ((r.map (xcv U)).map fun v => v.category).sum = r.length
  | [] => rfl
  | a :: r => by
    have h := x_rest U r
    simp only [List.map_cons, List.sum_cons, List.length_cons, xcv_cat, h]
    omega
theorem x_callV (hO : xOK U G own cc K) {mi : xMI} {n index b ci : Nat} {fs : List (Option Nat)} {C : String} {T : u_T} {N : Nat} {av : List xV} {post : Int32 → xM → Prop} (hM : xMetI U mi (.inr b :: av) M post) (hd : decode cc pc = .ok (.invokevirtual index, 3)) (hlk : Cond.methodLink own index mi.1 ∈ gw) (hcal : xCal mi n) (hvir : xVir mi) (hk : xk b) (hs : xsh b = .inr (.inr (ci, fs))) (hc : classes[ci]? = some (C, T, N)) (hC : mi.1.cls = C) (hn : av.length = n) (hst : st = av.reverse ++ .inr b :: rest) (hlev : mi.2.2.2.2 < K) (hr : rest.length ≤ 8) (kk : ∀ (r : Int32) (M' : xM), post r M' → XW U G (pc + 3) L (.inl r :: rest) M') : XW U G pc L st M := by
  obtain ⟨p, e, R, s, m, args, below, meth, c, A0, nL, cs, sl, Q⟩ := G
  intro H locs ls hP hS hL
  obtain ⟨o1, o2, o3, o4, o5, o6, o7, o8, o9, o10, o11, o12, o13⟩ := hO
  have cw : CallW R s args own C index mi.1 mi.2.1 mi.2.2.1 mi.2.2.2.1 (xws mi) (xrm mi.2.2.2.2) 0 0 n := ⟨callB_of n o5 (xws_good mi hcal) rfl rfl rfl (o5 _ hcal.2.1) (o5 _ hlk) hcal.2.2.1 (x_room o10 o11 hlev hcal.2.2.2.2), o5 _ hvir.1, by rw [← hC]; exact o5 _ hvir.2⟩
  refine va_calli (va_runV (C := C) (As := av.map (xcv U)) (rest := rest.map (xcv U)) ⟨o1, o2, o3, o4, o5⟩ hM cw ⟨xPre.blind, va_recv o6 hP (ci := ci) (q0 := xps b) hc (by rw [xWd_get U M hk, hs]; rfl), fun X hX hW => ⟨rfl, xPre.warm hX hW hP o6 o7 o8⟩⟩ rfl (by simpa using hn) hL.1 (by subst hst; simp [xcv]) (lv_room (by rw [x_rest]; exact hr)) hd ⟨o12, o13⟩) hS (fun q _ ⟨k, h1, h2⟩ => by rw [h2]; exact o9 k h1) (fun q ⟨k, h1, h2⟩ => by rw [h2]; exact o9 k h1) (fun r M' t H1 locs1 ht hvm hw hB hz1 hk1 hS1 => ?_)
  have hB' : va_P (xD U) classes (xWd U M') t.heap := hB
  rw [ht] at hB'
  exact kk r M' hw H1 locs1 ls hB' hS1 hL
theorem x_callVv (hO : xOK U G own cc K) {mi : xMI} {n index b ci : Nat} {fs : List (Option Nat)} {C : String} {T : u_T} {N : Nat} {av : List xV} {post : xM → Prop} (hM : xMetV U mi (.inr b :: av) M post) (hd : decode cc pc = .ok (.invokevirtual index, 3)) (hlk : Cond.methodLink own index mi.1 ∈ gw) (hcal : xCal mi n) (hvir : xVir mi) (hk : xk b) (hs : xsh b = .inr (.inr (ci, fs))) (hc : classes[ci]? = some (C, T, N)) (hC : mi.1.cls = C) (hn : av.length = n) (hst : st = av.reverse ++ .inr b :: rest) (hlev : mi.2.2.2.2 < K) (hr : rest.length ≤ 8) (kk : ∀ (M' : xM), post M' → XW U G (pc + 3) L rest M') : XW U G pc L st M := by
  obtain ⟨p, e, R, s, m, args, below, meth, c, A0, nL, cs, sl, Q⟩ := G
  intro H locs ls hP hS hL
  obtain ⟨o1, o2, o3, o4, o5, o6, o7, o8, o9, o10, o11, o12, o13⟩ := hO
  have cw : CallW R s args own C index mi.1 mi.2.1 mi.2.2.1 mi.2.2.2.1 (xws mi) (xrm mi.2.2.2.2) 0 0 n := ⟨callB_of n o5 (xws_good mi hcal) rfl rfl rfl (o5 _ hcal.2.1) (o5 _ hlk) hcal.2.2.1 (x_room o10 o11 hlev hcal.2.2.2.2), o5 _ hvir.1, by rw [← hC]; exact o5 _ hvir.2⟩
  refine va_callv (va_runV (C := C) (As := av.map (xcv U)) (rest := rest.map (xcv U)) ⟨o1, o2, o3, o4, o5⟩ hM cw ⟨xPre.blind, va_recv o6 hP (ci := ci) (q0 := xps b) hc (by rw [xWd_get U M hk, hs]; rfl), fun X hX hW => ⟨rfl, xPre.warm hX hW hP o6 o7 o8⟩⟩ rfl (by simpa using hn) hL.1 (by subst hst; simp [xcv]) (lv_room (by rw [x_rest]; exact hr)) hd ⟨o12, o13⟩) hS (fun q _ ⟨k, h1, h2⟩ => by rw [h2]; exact o9 k h1) (fun q ⟨k, h1, h2⟩ => by rw [h2]; exact o9 k h1) (fun M' t H1 locs1 ht hvm hw hB hz1 hk1 hS1 => ?_)
  have hB' : va_P (xD U) classes (xWd U M') t.heap := hB
  rw [ht] at hB'
  exact kk M' hw H1 locs1 ls hB' hS1 hL
theorem x_callS (hO : xOK U G own cc K) {mi : xMI} {n index : Nat} {av : List xV} {post : Int32 → xM → Prop} (hM : xMetI U mi av M post) (hd : decode cc pc = .ok (.invokestatic index, 3)) (hlk : Cond.methodLink own index mi.1 ∈ gw) (hcal : xCal mi n) (hsta : xSta mi) (hn : av.length = n) (hst : st = av.reverse ++ rest) (hlev : mi.2.2.2.2 < K) (hr : rest.length ≤ 8) (kk : ∀ (r : Int32) (M' : xM), post r M' → XW U G (pc + 3) L (.inl r :: rest) M') : XW U G pc L st M := by
  obtain ⟨p, e, R, s, m, args, below, meth, c, A0, nL, cs, sl, Q⟩ := G
  intro H locs ls hP hS hL
  obtain ⟨o1, o2, o3, o4, o5, o6, o7, o8, o9, o10, o11, o12, o13⟩ := hO
  have cw : CallB R s args own index mi.1 mi.2.1 mi.2.2.1 mi.2.2.2.1 (xws mi) (xrm mi.2.2.2.2) 0 0 n ∧ (Cond.static mi.1).before args s = true := ⟨callB_of n o5 (xws_good mi hcal) rfl rfl rfl (o5 _ hcal.2.1) (o5 _ hlk) hcal.2.2.1 (x_room o10 o11 hlev hcal.2.2.2.2), o5 _ hsta⟩
  refine va_calli (va_runS (As := av.map (xcv U)) (rest := rest.map (xcv U)) ⟨o1, o2, o3, o4, o5⟩ hM cw ⟨xPre.blind, fun X hX hW => ⟨rfl, xPre.warm hX hW hP o6 o7 o8⟩⟩ rfl (by simpa using hn) hL.1 (by subst hst; simp [xcv]) (lv_room (by rw [x_rest]; exact hr)) hd ⟨o12, o13⟩) hS (fun q _ ⟨k, h1, h2⟩ => by rw [h2]; exact o9 k h1) (fun q ⟨k, h1, h2⟩ => by rw [h2]; exact o9 k h1) (fun r M' t H1 locs1 ht hvm hw hB hz1 hk1 hS1 => ?_)
  have hB' : va_P (xD U) classes (xWd U M') t.heap := hB
  rw [ht] at hB'
  exact kk r M' hw H1 locs1 ls hB' hS1 hL
theorem x_callSv (hO : xOK U G own cc K) {mi : xMI} {n index : Nat} {av : List xV} {post : xM → Prop} (hM : xMetV U mi av M post) (hd : decode cc pc = .ok (.invokestatic index, 3)) (hlk : Cond.methodLink own index mi.1 ∈ gw) (hcal : xCal mi n) (hsta : xSta mi) (hn : av.length = n) (hst : st = av.reverse ++ rest) (hlev : mi.2.2.2.2 < K) (hr : rest.length ≤ 8) (kk : ∀ (M' : xM), post M' → XW U G (pc + 3) L rest M') : XW U G pc L st M := by
  obtain ⟨p, e, R, s, m, args, below, meth, c, A0, nL, cs, sl, Q⟩ := G
  intro H locs ls hP hS hL
  obtain ⟨o1, o2, o3, o4, o5, o6, o7, o8, o9, o10, o11, o12, o13⟩ := hO
  have cw : CallB R s args own index mi.1 mi.2.1 mi.2.2.1 mi.2.2.2.1 (xws mi) (xrm mi.2.2.2.2) 0 0 n ∧ (Cond.static mi.1).before args s = true := ⟨callB_of n o5 (xws_good mi hcal) rfl rfl rfl (o5 _ hcal.2.1) (o5 _ hlk) hcal.2.2.1 (x_room o10 o11 hlev hcal.2.2.2.2), o5 _ hsta⟩
  refine va_callv (va_runS (As := av.map (xcv U)) (rest := rest.map (xcv U)) ⟨o1, o2, o3, o4, o5⟩ hM cw ⟨xPre.blind, fun X hX hW => ⟨rfl, xPre.warm hX hW hP o6 o7 o8⟩⟩ rfl (by simpa using hn) hL.1 (by subst hst; simp [xcv]) (lv_room (by rw [x_rest]; exact hr)) hd ⟨o12, o13⟩) hS (fun q _ ⟨k, h1, h2⟩ => by rw [h2]; exact o9 k h1) (fun q ⟨k, h1, h2⟩ => by rw [h2]; exact o9 k h1) (fun M' t H1 locs1 ht hvm hw hB hz1 hk1 hS1 => ?_)
  have hB' : va_P (xD U) classes (xWd U M') t.heap := hB
  rw [ht] at hB'
  exact kk M' hw H1 locs1 ls hB' hS1 hL
theorem x_cn {R : Room} {s : State} {args : Array Value} {own host : String} {index n : Nat} {mi : xMI} {K : Nat} (o5 : ∀ w ∈ gw, w.before args s = true) (o8 : ∀ w ∈ xnw, va_Nw w s) (o10 : K ≤ R.frames) (o11 : 34 * K ≤ R.locals) (hlk : Cond.methodLinkNest own index mi.1 host ∈ xnw) (hcal : xCal mi n) (hlev : mi.2.2.2.2 < K) : va_CN R s args own index mi.1 host mi.2.1 mi.2.2.1 mi.2.2.2.1 (xws mi) (xrm mi.2.2.2.2) 0 0 n := va_cnB n o5 (xws_good mi hcal) rfl rfl rfl (o8 _ hlk) (o5 _ hcal.2.1) hcal.2.2.1 (x_room o10 o11 hlev hcal.2.2.2.2)
theorem x_callSN (hO : xOK U G own cc K) {mi : xMI} {n index : Nat} {host : String} {av : List xV} {post : Int32 → xM → Prop} (hM : xMetI U mi av M post) (hd : decode cc pc = .ok (.invokestatic index, 3)) (hlk : Cond.methodLinkNest own index mi.1 host ∈ xnw) (hcal : xCal mi n) (hsta : xSta mi) (hn : av.length = n) (hst : st = av.reverse ++ rest) (hlev : mi.2.2.2.2 < K) (hr : rest.length ≤ 8) (kk : ∀ (r : Int32) (M' : xM), post r M' → XW U G (pc + 3) L (.inl r :: rest) M') : XW U G pc L st M := by
  obtain ⟨p, e, R, s, m, args, below, meth, c, A0, nL, cs, sl, Q⟩ := G
  intro H locs ls hP hS hL
  obtain ⟨o1, o2, o3, o4, o5, o6, o7, o8, o9, o10, o11, o12, o13⟩ := hO
  refine va_calli (va_runSN (host := host) (As := av.map (xcv U)) (rest := rest.map (xcv U)) ⟨o1, o2, o3, o4, o5⟩ hM ⟨x_cn o5 o8 o10 o11 hlk hcal hlev, o5 _ hsta, trivial⟩ ⟨xPre.blind, fun X hX hW => ⟨rfl, xPre.warm hX hW hP o6 o7 o8⟩⟩ rfl (by simpa using hn) hL.1 (by subst hst; simp [xcv]) (lv_room (by rw [x_rest]; exact hr)) hd ⟨o12, o13⟩) hS (fun q _ ⟨k, h1, h2⟩ => by rw [h2]; exact o9 k h1) (fun q ⟨k, h1, h2⟩ => by rw [h2]; exact o9 k h1) (fun r M' t H1 locs1 ht hvm hw hB hz1 hk1 hS1 => ?_)
  have hB' : va_P (xD U) classes (xWd U M') t.heap := hB
  rw [ht] at hB'
  exact kk r M' hw H1 locs1 ls hB' hS1 hL
theorem x_callSNv (hO : xOK U G own cc K) {mi : xMI} {n index : Nat} {host : String} {av : List xV} {post : xM → Prop} (hM : xMetV U mi av M post) (hd : decode cc pc = .ok (.invokestatic index, 3)) (hlk : Cond.methodLinkNest own index mi.1 host ∈ xnw) (hcal : xCal mi n) (hsta : xSta mi) (hn : av.length = n) (hst : st = av.reverse ++ rest) (hlev : mi.2.2.2.2 < K) (hr : rest.length ≤ 8) (kk : ∀ (M' : xM), post M' → XW U G (pc + 3) L rest M') : XW U G pc L st M := by
  obtain ⟨p, e, R, s, m, args, below, meth, c, A0, nL, cs, sl, Q⟩ := G
  intro H locs ls hP hS hL
  obtain ⟨o1, o2, o3, o4, o5, o6, o7, o8, o9, o10, o11, o12, o13⟩ := hO
  refine va_callv (va_runSN (host := host) (As := av.map (xcv U)) (rest := rest.map (xcv U)) ⟨o1, o2, o3, o4, o5⟩ hM ⟨x_cn o5 o8 o10 o11 hlk hcal hlev, o5 _ hsta, trivial⟩ ⟨xPre.blind, fun X hX hW => ⟨rfl, xPre.warm hX hW hP o6 o7 o8⟩⟩ rfl (by simpa using hn) hL.1 (by subst hst; simp [xcv]) (lv_room (by rw [x_rest]; exact hr)) hd ⟨o12, o13⟩) hS (fun q _ ⟨k, h1, h2⟩ => by rw [h2]; exact o9 k h1) (fun q ⟨k, h1, h2⟩ => by rw [h2]; exact o9 k h1) (fun M' t H1 locs1 ht hvm hw hB hz1 hk1 hS1 => ?_)
  have hB' : va_P (xD U) classes (xWd U M') t.heap := hB
  rw [ht] at hB'
  exact kk M' hw H1 locs1 ls hB' hS1 hL
theorem x_callV1 (hO : xOK U G own cc K) {mi : xMI} {n index b ci : Nat} {fs : List (Option Nat)} {C : String} {T : u_T} {N : Nat} {av : List xV} {f : Int32} (hM : xMetI U mi (.inr b :: av) M (fun r M' => r = f ∧ M' = M)) (hd : decode cc pc = .ok (.invokevirtual index, 3)) (hlk : Cond.methodLink own index mi.1 ∈ gw) (hcal : xCal mi n) (hvir : xVir mi) (hk : xk b) (hs : xsh b = .inr (.inr (ci, fs))) (hc : classes[ci]? = some (C, T, N)) (hC : mi.1.cls = C) (hn : av.length = n) (hst : st = av.reverse ++ .inr b :: rest) (hlev : mi.2.2.2.2 < K) (hr : rest.length ≤ 8) (kk : XW U G (pc + 3) L (.inl f :: rest) M) : XW U G pc L st M := x_callV hO hM hd hlk hcal hvir hk hs hc hC hn hst hlev hr (fun r M' ⟨h1, h2⟩ => by rw [h1, h2]; exact kk)
theorem x_callS1 (hO : xOK U G own cc K) {mi : xMI} {n index : Nat} {av : List xV} {f : Int32} (hM : xMetI U mi av M (fun r M' => r = f ∧ M' = M)) (hd : decode cc pc = .ok (.invokestatic index, 3)) (hlk : Cond.methodLink own index mi.1 ∈ gw) (hcal : xCal mi n) (hsta : xSta mi) (hn : av.length = n) (hst : st = av.reverse ++ rest) (hlev : mi.2.2.2.2 < K) (hr : rest.length ≤ 8) (kk : XW U G (pc + 3) L (.inl f :: rest) M) : XW U G pc L st M := x_callS hO hM hd hlk hcal hsta hn hst hlev hr (fun r M' ⟨h1, h2⟩ => by rw [h1, h2]; exact kk)
theorem x_callSN1 (hO : xOK U G own cc K) {mi : xMI} {n index : Nat} {host : String} {av : List xV} {f : Int32} (hM : xMetI U mi av M (fun r M' => r = f ∧ M' = M)) (hd : decode cc pc = .ok (.invokestatic index, 3)) (hlk : Cond.methodLinkNest own index mi.1 host ∈ xnw) (hcal : xCal mi n) (hsta : xSta mi) (hn : av.length = n) (hst : st = av.reverse ++ rest) (hlev : mi.2.2.2.2 < K) (hr : rest.length ≤ 8) (kk : XW U G (pc + 3) L (.inl f :: rest) M) : XW U G pc L st M := x_callSN hO hM hd hlk hcal hsta hn hst hlev hr (fun r M' ⟨h1, h2⟩ => by rw [h1, h2]; exact kk)
theorem x_callVv1 (hO : xOK U G own cc K) {mi : xMI} {n index b ci : Nat} {fs : List (Option Nat)} {C : String} {T : u_T} {N : Nat} {av : List xV} {M1 : xM} (hM : xMetV U mi (.inr b :: av) M (fun M' => M' = M1)) (hd : decode cc pc = .ok (.invokevirtual index, 3)) (hlk : Cond.methodLink own index mi.1 ∈ gw) (hcal : xCal mi n) (hvir : xVir mi) (hk : xk b) (hs : xsh b = .inr (.inr (ci, fs))) (hc : classes[ci]? = some (C, T, N)) (hC : mi.1.cls = C) (hn : av.length = n) (hst : st = av.reverse ++ .inr b :: rest) (hlev : mi.2.2.2.2 < K) (hr : rest.length ≤ 8) (kk : XW U G (pc + 3) L rest M1) : XW U G pc L st M := x_callVv hO hM hd hlk hcal hvir hk hs hc hC hn hst hlev hr (fun M' h1 => by rw [h1]; exact kk)
theorem x_callSv1 (hO : xOK U G own cc K) {mi : xMI} {n index : Nat} {av : List xV} {M1 : xM} (hM : xMetV U mi av M (fun M' => M' = M1)) (hd : decode cc pc = .ok (.invokestatic index, 3)) (hlk : Cond.methodLink own index mi.1 ∈ gw) (hcal : xCal mi n) (hsta : xSta mi) (hn : av.length = n) (hst : st = av.reverse ++ rest) (hlev : mi.2.2.2.2 < K) (hr : rest.length ≤ 8) (kk : XW U G (pc + 3) L rest M1) : XW U G pc L st M := x_callSv hO hM hd hlk hcal hsta hn hst hlev hr (fun M' h1 => by rw [h1]; exact kk)
theorem x_callSNv1 (hO : xOK U G own cc K) {mi : xMI} {n index : Nat} {host : String} {av : List xV} {M1 : xM} (hM : xMetV U mi av M (fun M' => M' = M1)) (hd : decode cc pc = .ok (.invokestatic index, 3)) (hlk : Cond.methodLinkNest own index mi.1 host ∈ xnw) (hcal : xCal mi n) (hsta : xSta mi) (hn : av.length = n) (hst : st = av.reverse ++ rest) (hlev : mi.2.2.2.2 < K) (hr : rest.length ≤ 8) (kk : XW U G (pc + 3) L rest M1) : XW U G pc L st M := x_callSNv hO hM hd hlk hcal hsta hn hst hlev hr (fun M' h1 => by rw [h1]; exact kk)
/-- the end of a method that answers an int -/
def xRI (U : xP) (G : xG) (ty : FieldType) (post : Int32 → xM → Prop) : Prop := match G with
  | (p, e, R, s, m, args, below, meth, c, A0, nL, cs, sl, Q) => meth.sig.returnType = some ty ∧ meth.locks = false ∧ A0 = xA U ∧ Q = MQ below (va_Qi post (xPost U) (xA U)) args s cs sl (xA U)
def xRV (U : xP) (G : xG) (post : xM → Prop) : Prop := match G with
  | (p, e, R, s, m, args, below, meth, c, A0, nL, cs, sl, Q) => meth.sig.returnType = none ∧ meth.locks = false ∧ A0 = xA U ∧ Q = MQ below (va_Qv post (xPost U) (xA U)) args s cs sl (xA U)
theorem x_iret (hO : xOK U G own cc K) {ty : FieldType} {post : Int32 → xM → Prop} (hR : xRI U G ty post) {v : Int32} (hd : decode cc pc = .ok (.ireturn, 1)) (hn : narrow ty (.int v) = .int v) (kk : post v M) : XW U G pc L [.inl v] M := by
  obtain ⟨p, e, R, s, m, args, below, meth, c, A0, nL, cs, sl, Q⟩ := G
  obtain ⟨r1, r2, rfl, rfl⟩ := hR
  intro H locs ls hP hS hL
  exact W.zret (v := v) hO.1 hO.2.1 r1 hn (fun t ht hW => ⟨⟨v, M, rfl, kk, by show va_P _ _ _ _; rw [ht]; exact hP⟩, hS.F ht⟩) hS.2.2 hd r2
theorem x_vret (hO : xOK U G own cc K) {post : xM → Prop} (hR : xRV U G post) (hd : decode cc pc = .ok (.return_, 1)) (kk : post M) : XW U G pc L [] M := by
  obtain ⟨p, e, R, s, m, args, below, meth, c, A0, nL, cs, sl, Q⟩ := G
  obtain ⟨r1, r2, rfl, rfl⟩ := hR
  intro H locs ls hP hS hL
  exact W.vret hO.1 hO.2.1 r1 (fun t ht hW => ⟨⟨M, rfl, kk, by show va_P _ _ _ _; rw [ht]; exact hP⟩, hS.F ht⟩) hS.2.2 hd r2
end XC
theorem xMet_ofWF {y : MethodName} {ws ws' : List Cond} {rm : Room} {Pc : Array Value → State → Prop} {Qc : Array Value → State → Outcome → State → Prop} {mc ms : Nat} {free : Addr → Prop} {cc : ByteArray} {maxL : Nat} {ret : Option FieldType} {l : Launch}
    (hy : plainFor y = true) (hw : ws = Cond.code y cc maxL ret :: ws')
    (body : ∀ p e s m args below meth c s₁, BodyLoose p l y (headSpec ws rm) cc maxL ret e s m args below meth c s₁ → c.maxLocals = maxL → Pc args s →
      W p l e (headSpec ws rm).room s m args below meth c s.heap [] 0 0 (MQ below Qc args s mc ms free) (entryFrame m args maxL)) : Met l y ws rm Pc Qc mc ms free := by
  refine MetFree.of_bodySF (code := cc) (maxLocals := maxL) (ret := ret) hy ?_ ?_
  · intro args s m h hn
    obtain ⟨meth, c, h1, h2, h3, h4, h5, h6, -, -⟩ := Cond.code_spec hn (atoms_spec (ws := ws) h _ (by rw [hw]; exact List.mem_cons_self))
    exact ⟨meth, c, h1, h2, h3, h4, h5, h6⟩
  · intro p e s m args below meth c s₁ B hml hP _
    have hh0 : s₁.heap = s.heap := by rw [B.state]; rfl
    obtain ⟨t, a1, o, b1, b2, b3⟩ := body p e s m args below meth c s₁ B hml hP s₁ hh0 (Stand.of_body B)
    exact ⟨t, o, a1, b1, b2, ⟨b3.1, b3.2⟩⟩
theorem xMetI.of {U : xP} {mi : xMI} {n : Nat} {av : List xV} {M : xM} {post : Int32 → xM → Prop} {ty : FieldType} {L : List (Option xV)} (hc : xCal mi n) (hty : mi.2.2.2.1 = some ty) (hL : av.map some ++ List.replicate (mi.2.2.1 - av.length) none = L) (hl : av.length ≤ mi.2.2.1) (body : ∀ G : xG, G.2.2.2.2.2.2.2.2.2.2.1 = mi.2.2.1 → xOK U G mi.1.cls mi.2.1 mi.2.2.2.2 → xRI U G ty post → XW U G 0 L [] M) : xMetI U mi av M post := by
  refine xMet_ofWF (cc := mi.2.1) (maxL := mi.2.2.1) (ret := mi.2.2.2.1) hc.2.2.2.1 rfl ?_
  intro p e s m args below meth c s₁ B hml hv
  obtain ⟨rfl, hP, hK, hDi, hnw⟩ := hv
  have hts := atoms_spec (ws := xws mi) B.pre
  have h1 := body (p, e, (headSpec (xws mi) (xrm mi.2.2.2.2)).room, s, m, (av.map (xcv U)).toArray, below, meth, c, xA U, mi.2.2.1, 0, 0, MQ below (va_Qi post (xPost U) (xA U)) (av.map (xcv U)).toArray s 0 0 (xA U)) rfl ⟨B.exec, B.bytes, hml, findClass_of_methodNamed B.named, fun w hw => hts w (List.mem_cons_of_mem _ hw), hK, hDi, hnw, fun k hk => ⟨k, hk, rfl⟩, Nat.le_refl _, Nat.le_refl _, Nat.le_refl _, Nat.le_refl _⟩ ⟨by rw [B.returns]; exact hty, B.notSynchronized, rfl, rfl⟩
  have h2 := h1 s.heap [] _ hP va_S.rf (by rw [← hL]; exact xL.entry U av hl)
  rw [lg_entry_eq]
  exact h2
theorem xMetV.of {U : xP} {mi : xMI} {n : Nat} {av : List xV} {M : xM} {post : xM → Prop} {L : List (Option xV)} (hc : xCal mi n) (hty : mi.2.2.2.1 = none) (hL : av.map some ++ List.replicate (mi.2.2.1 - av.length) none = L) (hl : av.length ≤ mi.2.2.1) (body : ∀ G : xG, G.2.2.2.2.2.2.2.2.2.2.1 = mi.2.2.1 → xOK U G mi.1.cls mi.2.1 mi.2.2.2.2 → xRV U G post → XW U G 0 L [] M) : xMetV U mi av M post := by
  refine xMet_ofWF (cc := mi.2.1) (maxL := mi.2.2.1) (ret := mi.2.2.2.1) hc.2.2.2.1 rfl ?_
  intro p e s m args below meth c s₁ B hml hv
  obtain ⟨rfl, hP, hK, hDi, hnw⟩ := hv
  have hts := atoms_spec (ws := xws mi) B.pre
  have h1 := body (p, e, (headSpec (xws mi) (xrm mi.2.2.2.2)).room, s, m, (av.map (xcv U)).toArray, below, meth, c, xA U, mi.2.2.1, 0, 0, MQ below (va_Qv post (xPost U) (xA U)) (av.map (xcv U)).toArray s 0 0 (xA U)) rfl ⟨B.exec, B.bytes, hml, findClass_of_methodNamed B.named, fun w hw => hts w (List.mem_cons_of_mem _ hw), hK, hDi, hnw, fun k hk => ⟨k, hk, rfl⟩, Nat.le_refl _, Nat.le_refl _, Nat.le_refl _, Nat.le_refl _⟩ ⟨by rw [B.returns]; exact hty, B.notSynchronized, rfl, rfl⟩
  have h2 := h1 s.heap [] _ hP va_S.rf (by rw [← hL]; exact xL.entry U av hl)
  rw [lg_entry_eq]
  exact h2
end
section
/-! ===== numbers, and searches over them ===== -/
theorem xinc_n (i : Nat) : nI i + Int32.ofInt 1 = nI (i + 1) := nI_1 i
theorem xdec_n (i : Nat) : nI (i + 1) + Int32.ofInt (-1) = nI i := pk_m1 i
/-- one less than k, from -1 on -/
def xm : Nat → Int32
  | 0 => -1
  | k + 1 => nI k
theorem xm_s (k : Nat) : xm (k + 1) = nI k := rfl
theorem xm_dec (k : Nat) : nI k + Int32.ofInt (-1) = xm k := by
  cases k with
  | zero => rfl
  | succ k => exact pk_m1 k
theorem xm_lt0 {k : Nat} (h : k < 2 ^ 31) : xm k < 0 ↔ k = 0 := by
  cases k with
  | zero => exact ⟨fun _ => rfl, fun _ => by decide⟩
  | succ k => exact ⟨fun q => absurd q (nI_pos (by omega)), fun q => by omega⟩
theorem xm_toInt {k : Nat} (h : k ≤ 2 ^ 31) : (xm k).toInt = (k : Int) - 1 := by
  cases k with
  | zero => decide
  | succ k => rw [xm_s, nI_toInt (by omega)]; omega
theorem upd_ind {P : Nat → Nat → Prop} (n : Nat) (h0 : P n 0) (hs : ∀ i d, i + (d + 1) = n → P (i + 1) d → P i (d + 1)) : ∀ d i, i + d = n → P i d := by
  intro d
  induction d with
  | zero => intro i h; obtain rfl : i = n := (by omega); exact h0
  | succ d ih => intro i h; exact hs i d h (ih (i + 1) (by omega))
/-- how many are below n -/
def nC (P : Nat → Bool) : Nat → Nat
  | 0 => 0
  | n + 1 => nC P n + (if P n then 1 else 0)
theorem nC_le (P : Nat → Bool) : ∀ n, nC P n ≤ n
  | 0 => Nat.le_refl _
  | n + 1 => by
    have := nC_le P n
    simp only [nC]
    split <;> omega
theorem nC_t {P : Nat → Bool} {n : Nat} (h : P n = true) : nC P (n + 1) = nC P n + 1 := by simp [nC, h]
theorem nC_f {P : Nat → Bool} {n : Nat} (h : P n = false) : nC P (n + 1) = nC P n := by simp [nC, h]
theorem nC_congr {P Q : Nat → Bool} : ∀ {n : Nat}, (∀ i, i < n → P i = Q i) → nC P n = nC Q n
  | 0, _ => rfl
  | n + 1, h => by simp only [nC, h n (by omega), nC_congr (n := n) (fun i hi => h i (by omega))]
theorem nC_0 {P : Nat → Bool} : ∀ {n : Nat}, nC P n = 0 ↔ ∀ i, i < n → P i = false
  | 0 => ⟨fun _ i h => by omega, fun _ => rfl⟩
  | n + 1 => by
    have ih := nC_0 (P := P) (n := n)
    simp only [nC]
    constructor
    · intro h i hi
      rcases Nat.lt_or_ge i n with q | q
      · exact ih.mp (by omega) i q
      · obtain rfl : i = n := by omega
        cases e : P i with
        | false => rfl
        | true => rw [e] at h; simp at h
    · intro h
      rw [ih.mpr (fun i hi => h i (by omega)), h n (by omega)]
      rfl
/-- the first from i on, of d; i + d if there is none -/
def nF (P : Nat → Bool) : Nat → Nat → Nat
  | i, 0 => i
  | i, d + 1 => if P i then i else nF P (i + 1) d
theorem nF_t {P : Nat → Bool} {i d : Nat} (h : P i = true) : nF P i (d + 1) = i := by simp [nF, h]
theorem nF_f {P : Nat → Bool} {i d : Nat} (h : P i = false) : nF P i (d + 1) = nF P (i + 1) d := by simp [nF, h]
theorem nF_le {P : Nat → Bool} : ∀ (d i : Nat), i ≤ nF P i d ∧ nF P i d ≤ i + d
  | 0, i => ⟨Nat.le_refl _, Nat.le_refl _⟩
  | d + 1, i => by
    have := nF_le (P := P) d (i + 1)
    simp only [nF]
    split <;> omega
theorem nF_no {P : Nat → Bool} : ∀ (d i j : Nat), i ≤ j → j < nF P i d → P j = false
  | 0, i, j, h1, h2 => by simp only [nF] at h2; omega
  | d + 1, i, j, h1, h2 => by
    cases e : P i with
    | true => rw [nF_t e] at h2; omega
    | false =>
      rw [nF_f e] at h2
      rcases Nat.lt_or_ge i j with q | q
      · exact nF_no d (i + 1) j q h2
      · obtain rfl : i = j := by omega
        exact e
theorem nF_yes {P : Nat → Bool} : ∀ (d i : Nat), nF P i d < i + d → P (nF P i d) = true
  | 0, i, h => by simp only [nF] at h; omega
  | d + 1, i, h => by
    cases e : P i with
    | true => rw [nF_t e]; exact e
    | false =>
      rw [nF_f e] at h ⊢
      exact nF_yes d (i + 1) (by omega)
theorem nF_eq {P : Nat → Bool} {i d r : Nat} (h0 : i ≤ r) (h1 : r ≤ i + d) (h2 : ∀ j, i ≤ j → j < r → P j = false) (h3 : r < i + d → P r = true) : nF P i d = r := by
  have a := nF_le (P := P) d i
  rcases Nat.lt_trichotomy (nF P i d) r with q | q | q
  · have := nF_yes (P := P) d i (by omega)
    rw [h2 _ a.1 q] at this
    cases this
  · exact q
  · have := nF_no (P := P) d i r h0 q
    rw [h3 (by omega)] at this
    cases this
theorem nF_congr {P Q : Nat → Bool} : ∀ {d i : Nat}, (∀ j, i ≤ j → j < i + d → P j = Q j) → nF P i d = nF Q i d
  | 0, _, _ => rfl
  | d + 1, i, h => by simp only [nF, h i (by omega) (by omega), nF_congr (d := d) (i := i + 1) (fun j h1 h2 => h j (by omega) (by omega))]
/-- one more than the last below n; 0 if there is none -/
def nL (P : Nat → Bool) : Nat → Nat
  | 0 => 0
  | n + 1 => if P n then n + 1 else nL P n
theorem nL_t {P : Nat → Bool} {n : Nat} (h : P n = true) : nL P (n + 1) = n + 1 := by simp [nL, h]
theorem nL_f {P : Nat → Bool} {n : Nat} (h : P n = false) : nL P (n + 1) = nL P n := by simp [nL, h]
theorem nL_le {P : Nat → Bool} : ∀ n, nL P n ≤ n
  | 0 => Nat.le_refl _
  | n + 1 => by
    have := nL_le (P := P) n
    simp only [nL]
    split <;> omega
theorem nL_yes {P : Nat → Bool} : ∀ {n j : Nat}, nL P n = j + 1 → P j = true
  | 0, j, h => by simp [nL] at h
  | n + 1, j, h => by
    cases e : P n with
    | true => rw [nL_t e] at h; obtain rfl : n = j := (by omega); exact e
    | false => rw [nL_f e] at h; exact nL_yes h
theorem nL_no {P : Nat → Bool} : ∀ {n j : Nat}, nL P n ≤ j → j < n → P j = false
  | 0, j, _, h => by omega
  | n + 1, j, h1, h2 => by
    cases e : P n with
    | true => rw [nL_t e] at h1; omega
    | false =>
      rw [nL_f e] at h1
      rcases Nat.lt_or_ge j n with q | q
      · exact nL_no h1 q
      · obtain rfl : j = n := by omega
        exact e
theorem nL_congr {P Q : Nat → Bool} : ∀ {n : Nat}, (∀ i, i < n → P i = Q i) → nL P n = nL Q n
  | 0, _ => rfl
  | n + 1, h => by simp only [nL, h n (by omega), nL_congr (n := n) (fun i hi => h i (by omega))]
/-- a truth as the machine has it -/
def bI (b : Bool) : Int32 := if b then 1 else 0
theorem bI_0 {b : Bool} (h : bI b = 0) : b = false := by cases b <;> first | rfl | exact absurd h (by decide)
theorem bI_1 {b : Bool} (h : ¬ bI b = 0) : b = true := by cases b <;> first | rfl | exact absurd rfl h
theorem bI_nar (b : Bool) : narrow .boolean (.int (bI b)) = .int (bI b) := by cases b <;> rfl
theorem bI_t {b : Bool} (h : b = true) : (nI 1 : Int32) = bI b := by rw [h]; rfl
theorem bI_f {b : Bool} (h : b = false) : (nI 0 : Int32) = bI b := by rw [h]; rfl
/-- what isSlot, isKey and their like ask: a number from 0 to n - 1 -/
theorem xi_range {x : Int32} {n : Nat} (hn : n < 2 ^ 31) : (¬ x < 0 ∧ x < nI n) ↔ ∃ j : Nat, j < n ∧ x = nI j := by
  constructor
  · rintro ⟨h1, h2⟩
    obtain ⟨j, hj, rfl⟩ := nI_of h1
    exact ⟨j, (nI_ltI hj hn).mp h2, rfl⟩
  · rintro ⟨j, hj, rfl⟩
    exact ⟨nI_pos (by omega), (nI_ltI (by omega) hn).mpr hj⟩
/-- an index of 0 to n - 1 -/
def ixB (x : Int32) (n : Nat) : Bool := decide (¬ x < 0 ∧ x < nI n)
theorem ixB_n {j n : Nat} (h : j < n) (hn : n < 2 ^ 31) : ixB (nI j) n = true := decide_eq_true ((xi_range hn).mpr ⟨j, h, rfl⟩)
theorem ixB_e {x : Int32} {n : Nat} (hn : n < 2 ^ 31) (h : ixB x n = true) : ∃ j : Nat, j < n ∧ x = nI j := (xi_range hn).mp (of_decide_eq_true h)
theorem ixB_lo {x : Int32} {n : Nat} (h : x < 0) : ixB x n = false := decide_eq_false (fun q => q.1 h)
theorem ixB_hi {x : Int32} {n : Nat} (h : nI n ≤ x) : ixB x n = false := decide_eq_false (fun q => Int32.not_lt.mpr h q.2)
theorem ixB_in {x : Int32} {n : Nat} (h1 : ¬ x < 0) (h2 : ¬ nI n ≤ x) : ixB x n = true := decide_eq_true ⟨h1, Int32.not_le.mp h2⟩
/-! ===== what a memory holds: a row of seven numbers a slot (rule, part, mask, value, rank, action, hits); a free slot's rule is -1 ===== -/
/-- the slot s of the memory at the cell b holds an entry -/
def occ (M : xM) (b s : Nat) : Bool := decide (s < 32) && !(M (b + 1) s == -1)
def eR : Nat → Int32 := fun w => if w = 0 then -1 else 0
def cA (M : xM) (b : Nat) : Nat → Nat → Int32 := fun s w => if occ M b s then (if w < 6 then M (b + 1 + w) s else if w = 6 ∧ M (b + 2) s = 0 then M (b + 7) s else 0) else eR w
def aoc (A : Nat → Nat → Int32) (s : Nat) : Bool := !(A s 0 == -1)
theorem cA_oc (M : xM) (b s : Nat) : aoc (cA M b) s = occ M b s := by
  unfold aoc cA
  cases h : occ M b s with
  | false => rfl
  | true =>
    have h2 := h
    simp only [occ, Bool.and_eq_true] at h2
    simpa using h2.2
theorem cA_in {M : xM} {b s : Nat} (h : aoc (cA M b) s = true) {w : Nat} (hw : w < 6) : M (b + 1 + w) s = cA M b s w := by
  rw [cA_oc] at h
  simp [cA, h, hw]
theorem cA_lt {M : xM} {b s : Nat} (h : aoc (cA M b) s = true) : s < 32 := by
  rw [cA_oc] at h
  simp only [occ, Bool.and_eq_true, decide_eq_true_eq] at h
  exact h.1
theorem cA_out {M : xM} {b s : Nat} (h : 32 ≤ s) : aoc (cA M b) s = false := by
  rw [cA_oc]
  simp only [occ]
  rw [decide_eq_false (by omega)]
  rfl
theorem cA_hit {M : xM} {b s : Nat} (h : aoc (cA M b) s = true) (h0 : cA M b s 1 = 0) : M (b + 7) s = cA M b s 6 := by
  have h1 : M (b + 2) s = 0 := by rw [show b + 2 = b + 1 + 1 from rfl, cA_in h (by decide)]; exact h0
  rw [cA_oc] at h
  simp [cA, h, h1]
end
section
/-! ===== TernaryMatcher.isSlot ===== -/
theorem k_isSlot (U : xP) (M : xM) (x : Int32) : xMetI U mX3_isSlot [.inl x] M (fun r M' => r = bI (ixB x 32) ∧ M' = M) := by
  refine xMetI.of (ty := .boolean) (L := [some (.inl x)]) fX3_isSlot rfl rfl (Nat.le_of_ble_eq_true rfl) (fun G hN hO hR => ?_)
  have hN : G.2.2.2.2.2.2.2.2.2.2.1 = 1 := hN
  have hO : xOK U G RX3 cX3_isSlot 0 := hO
  refine x_iload_n hO dX3_isSlot_0 rfl rfl ?_
  refine x_if_lt (tgt := 14) hO dX3_isSlot_1 (by decide) (fun c => ?_) (fun c => ?_)
  · refine x_iconst (v := nI 0) hO dX3_isSlot_14 rfl ?_
    refine x_iret hO hR dX3_isSlot_15 rfl ?_
    exact ⟨bI_f (ixB_lo c), rfl⟩
  · refine x_iload_n hO dX3_isSlot_4 rfl rfl ?_
    refine x_bipush (v := nI 32) hO dX3_isSlot_5 rfl ?_
    refine x_icmp_ge (tgt := 14) hO dX3_isSlot_7 (by decide) (fun c2 => ?_) (fun c2 => ?_)
    · refine x_iconst (v := nI 0) hO dX3_isSlot_14 rfl ?_
      refine x_iret hO hR dX3_isSlot_15 rfl ?_
      exact ⟨bI_f (ixB_hi c2), rfl⟩
    · refine x_iconst (v := nI 1) hO dX3_isSlot_10 rfl ?_
      refine x_goto (tgt := 15) hO dX3_isSlot_11 (by decide) ?_
      refine x_iret hO hR dX3_isSlot_15 rfl ?_
      exact ⟨bI_t (ixB_in c c2), rfl⟩
/-! ===== Memory.holdsEntry ===== -/
theorem k_holdsEntry (U : xP) (M : xM) (x : Int32) : xMetI U mX1_holdsEntry [.inr 16, .inl x] M (fun r M' => r = bI (ixB x 32 && aoc (cA M 16) x.toNatClampNeg) ∧ M' = M) := by
  refine xMetI.of (ty := .boolean) (L := [some (.inr 16), some (.inl x)]) fX1_holdsEntry rfl rfl (Nat.le_of_ble_eq_true rfl) (fun G hN hO hR => ?_)
  have hN : G.2.2.2.2.2.2.2.2.2.2.1 = 2 := hN
  have hO : xOK U G RX1 cX1_holdsEntry 0 := hO
  refine x_iload_n hO dX1_holdsEntry_0 rfl rfl ?_
  refine x_if_lt (tgt := 24) hO dX1_holdsEntry_1 (by decide) (fun c => ?_) (fun c => ?_)
  · refine x_iconst (v := nI 0) hO dX1_holdsEntry_24 rfl ?_
    refine x_iret hO hR dX1_holdsEntry_25 rfl ?_
    exact ⟨bI_f (by rw [ixB_lo c]; rfl), rfl⟩
  · refine x_iload_n hO dX1_holdsEntry_4 rfl rfl ?_
    refine x_bipush (v := nI 32) hO dX1_holdsEntry_5 rfl ?_
    refine x_icmp_ge (tgt := 24) hO dX1_holdsEntry_7 (by decide) (fun c2 => ?_) (fun c2 => ?_)
    · refine x_iconst (v := nI 0) hO dX1_holdsEntry_24 rfl ?_
      refine x_iret hO hR dX1_holdsEntry_25 rfl ?_
      exact ⟨bI_f (by rw [ixB_hi c2]; rfl), rfl⟩
    · obtain ⟨j, hj, rfl⟩ := ixB_e (by decide) (ixB_in c c2)
      have hc : (nI j).toNatClampNeg = j := nI_clamp (by omega)
      refine x_aload_n hO dX1_holdsEntry_10 rfl rfl ?_
      refine x_getR (T := TX1) (j := 0) hO dX1_holdsEntry_11 flX1_9 (by decide) rfl rfl (by decide) rfl rfl ?_
      refine x_iload_n hO dX1_holdsEntry_14 rfl rfl ?_
      refine x_iald hO (by decide) rfl (by decide) (rfl) (hj) dX1_holdsEntry_15 ?_
      refine x_iconst (v := (-1 : Int32)) hO dX1_holdsEntry_16 rfl ?_
      refine x_icmp_eq (tgt := 24) hO dX1_holdsEntry_17 (by decide) (fun c3 => ?_) (fun c3 => ?_)
      · refine x_iconst (v := nI 0) hO dX1_holdsEntry_24 rfl ?_
        refine x_iret hO hR dX1_holdsEntry_25 rfl ?_
        exact ⟨bI_f (by rw [hc, cA_oc]; simp [occ, c3]), rfl⟩
      · refine x_iconst (v := nI 1) hO dX1_holdsEntry_20 rfl ?_
        refine x_goto (tgt := 25) hO dX1_holdsEntry_21 (by decide) ?_
        refine x_iret hO hR dX1_holdsEntry_25 rfl ?_
        exact ⟨bI_t (by rw [ixB_n hj (by decide), hc, cA_oc]; simp [occ, c3, hj]), rfl⟩
theorem k_holds {U : xP} (M : xM) {i : Nat} (hi : i < 32) : xMetI U mX1_holdsEntry [.inr 16, .inl (nI i)] M (fun r M' => r = bI (aoc (cA M 16) i) ∧ M' = M) := by
  have h := k_holdsEntry U M (nI i)
  rw [ixB_n hi (by decide), nI_clamp (by omega)] at h
  simpa using h
theorem k_told (U : xP) (M : xM) {k : Nat} (hk : xk k) (hs : xsh k = .inl 32) (x : Int32) : xMetI U mX1_told [.inr 16, .inr k, .inl x] M (fun r M' => r = (if ixB x 32 then (if aoc (cA M 16) x.toNatClampNeg then M k x.toNatClampNeg else -4) else -1) ∧ M' = M) := by
  refine xMetI.of (ty := .int) (L := [some (.inr 16), some (.inr k), some (.inl x)]) fX1_told rfl rfl (Nat.le_of_ble_eq_true rfl) (fun G hN hO hR => ?_)
  have hN : G.2.2.2.2.2.2.2.2.2.2.1 = 3 := hN
  have hO : xOK U G RX1 cX1_told 1 := hO
  refine x_iload_n hO dX1_told_0 rfl rfl ?_
  refine x_callSN1 hO (k_isSlot U M x) dX1_told_1 lkX1_49 fX3_isSlot sX3_isSlot rfl rfl (by decide) (Nat.le_of_ble_eq_true rfl) ?_
  refine x_if_eq (tgt := 13) hO dX1_told_4 (by decide) (fun c => ?_) (fun c => ?_)
  · refine x_iconst (v := (-1 : Int32)) hO dX1_told_13 rfl ?_
    refine x_iret hO hR dX1_told_14 rfl ?_
    exact ⟨by rw [bI_0 c]; rfl, rfl⟩
  · obtain ⟨j, hj, rfl⟩ := ixB_e (by decide) (bI_1 c)
    have hc : (nI j).toNatClampNeg = j := nI_clamp (by omega)
    refine x_iload_n hO dX1_told_7 rfl rfl ?_
    refine x_aload_n hO dX1_told_8 rfl rfl ?_
    refine x_alen hO hk hs dX1_told_9 ?_
    refine x_icmp_lt (tgt := 15) hO dX1_told_10 (by decide) (fun c2 => ?_) (fun c2 => ?_)
    · refine x_aload_n hO dX1_told_15 rfl rfl ?_
      refine x_iload_n hO dX1_told_16 rfl rfl ?_
      refine x_callV1 hO (k_holds M hj) dX1_told_17 lkX1_53 fX1_holdsEntry vX1_holdsEntry (by decide) rfl rfl rfl rfl rfl (by decide) (Nat.le_of_ble_eq_true rfl) ?_
      refine x_if_eq (tgt := 29) hO dX1_told_20 (by decide) (fun c3 => ?_) (fun c3 => ?_)
      · refine x_bipush (v := (-4 : Int32)) hO dX1_told_29 rfl ?_
        refine x_iret hO hR dX1_told_31 rfl ?_
        exact ⟨by rw [ixB_n hj (by decide), hc, bI_0 c3]; rfl, rfl⟩
      · refine x_aload_n hO dX1_told_23 rfl rfl ?_
        refine x_iload_n hO dX1_told_24 rfl rfl ?_
        refine x_iald hO hk hs (by decide) rfl hj dX1_told_25 ?_
        refine x_goto (tgt := 31) hO dX1_told_26 (by decide) ?_
        refine x_iret hO hR dX1_told_31 rfl ?_
        exact ⟨by rw [ixB_n hj (by decide), hc, bI_1 c3]; rfl, rfl⟩
    · exact absurd (nI_lt hj (by decide)) c2
end
section
/-! ===== what is asked of a memory's rows ===== -/
theorem nC_add (P : Nat → Bool) (m : Nat) : ∀ n, nC P (m + n) = nC P m + nC (fun i => P (m + i)) n
  | 0 => rfl
  | n + 1 => by
    have := nC_add P m n
    rw [show m + (n + 1) = (m + n) + 1 from rfl]
    simp only [nC, this]
    omega
abbrev aR : Type := Nat → Nat → Int32
def aBank (A : aR) (b : Nat) : Nat := nC (fun i => aoc A (b * 8 + i)) 8
def aCnt (A : aR) : Nat := nC (aoc A) 32
theorem aCnt_s (A : aR) (b : Nat) : nC (aoc A) ((b + 1) * 8) = nC (aoc A) (b * 8) + aBank A b := by
  rw [show (b + 1) * 8 = b * 8 + 8 from by omega, nC_add]
  rfl
def pP0 (A : aR) (s : Nat) : Bool := aoc A s && (A s 1 == 0)
def pRule (A : aR) (r : Int32) (s : Nat) : Bool := aoc A s && (A s 0 == r)
def pPart (A : aR) (r q : Int32) (s : Nat) : Bool := aoc A s && (A s 0 == r && A s 1 == q)
def pUp (A : aR) (r : Int32) (s : Nat) : Bool := aoc A s && decide (A s 4 ≤ r)
def pBy (A : aR) (r : Int32) (s : Nat) : Bool := aoc A s && decide (r < A s 4)
def pKey (A : aR) (k : Int32) (s : Nat) : Bool := aoc A s && (k &&& A s 2 == A s 3)
/-- a slot, or -1 -/
def aN (f : Nat) : Int32 := if f < 32 then nI f else -1
def aFd (A : aR) (k : Int32) : Nat := nF (pKey A k) 0 32
theorem k_entriesInBank (U : xP) (M : xM) {b : Nat} (hb : b < 4) : xMetI U mX1_entriesInBank [.inr 16, .inl (nI b)] M (fun r M' => r = nI (aBank (cA M 16) b) ∧ M' = M) := by
  refine xMetI.of (ty := .int) (L := [some (.inr 16), some (.inl (nI b)), none, none]) fX1_entriesInBank rfl rfl (Nat.le_of_ble_eq_true rfl) (fun G hN hO hR => ?_)
  have hN : G.2.2.2.2.2.2.2.2.2.2.1 = 4 := hN
  have hO : xOK U G RX1 cX1_entriesInBank 1 := hO
  refine x_iconst (v := nI 0) hO dX1_entriesInBank_0 rfl ?_
  refine x_istore_n (n := 4) hO dX1_entriesInBank_1 rfl rfl (by decide) hN ?_
  refine x_iconst (v := nI 0) hO dX1_entriesInBank_2 rfl ?_
  refine x_istore_n (n := 4) hO dX1_entriesInBank_3 rfl rfl (by decide) hN ?_
  refine upd_ind (P := fun i _ => XW U G 4 [some (.inr 16), some (.inl (nI b)), some (.inl (nI (nC (fun i => aoc (cA M 16) (b * 8 + i)) i))), some (.inl (nI i))] [] M) 8 ?_ ?_ 8 0 rfl
  · refine x_iload_n hO dX1_entriesInBank_4 rfl rfl ?_
    refine x_bipush (v := nI 8) hO dX1_entriesInBank_5 rfl ?_
    refine x_icmp_ge (tgt := 32) hO dX1_entriesInBank_7 (by decide) (fun c => ?_) (fun c => ?_)
    · refine x_iload_n hO dX1_entriesInBank_32 rfl rfl ?_
      refine x_iret hO hR dX1_entriesInBank_33 rfl ?_
      exact ⟨rfl, rfl⟩
    · exact absurd (Int32.le_refl _) c
  · intro i d hd ih
    refine x_iload_n hO dX1_entriesInBank_4 rfl rfl ?_
    refine x_bipush (v := nI 8) hO dX1_entriesInBank_5 rfl ?_
    refine x_icmp_ge (tgt := 32) hO dX1_entriesInBank_7 (by decide) (fun c => ?_) (fun c => ?_)
    · exact absurd c (nI_ge (by omega) (by decide))
    · refine x_aload_n hO dX1_entriesInBank_10 rfl rfl ?_
      refine x_iload_n hO dX1_entriesInBank_11 rfl rfl ?_
      refine x_bipush (v := nI 8) hO dX1_entriesInBank_12 rfl ?_
      refine x_imul hO dX1_entriesInBank_14 ?_
      refine x_iload_n hO dX1_entriesInBank_15 rfl rfl ?_
      refine x_iadd hO dX1_entriesInBank_16 ?_
      rw [pk_mul, nI_add]
      refine x_callV1 hO (k_holds M (i := b * 8 + i) (by omega)) dX1_entriesInBank_17 lkX1_53 fX1_holdsEntry vX1_holdsEntry (by decide) rfl rfl rfl rfl rfl (by decide) (Nat.le_of_ble_eq_true rfl) ?_
      refine x_if_eq (tgt := 26) hO dX1_entriesInBank_20 (by decide) (fun c2 => ?_) (fun c2 => ?_)
      · refine x_iinc hO dX1_entriesInBank_26 rfl (by first | exact xinc_n _ | rfl) rfl hN ?_
        refine x_goto (tgt := 4) hO dX1_entriesInBank_29 (by decide) ?_
        rw [nC_f (P := fun i => aoc (cA M 16) (b * 8 + i)) (bI_0 c2)] at ih
        exact ih
      · refine x_iinc hO dX1_entriesInBank_23 rfl (by first | exact xinc_n _ | rfl) rfl hN ?_
        refine x_iinc hO dX1_entriesInBank_26 rfl (by first | exact xinc_n _ | rfl) rfl hN ?_
        refine x_goto (tgt := 4) hO dX1_entriesInBank_29 (by decide) ?_
        rw [nC_t (P := fun i => aoc (cA M 16) (b * 8 + i)) (bI_1 c2)] at ih
        exact ih
theorem k_entries (U : xP) (M : xM) : xMetI U mX1_entries [.inr 16] M (fun r M' => r = nI (aCnt (cA M 16)) ∧ M' = M) := by
  refine xMetI.of (ty := .int) (L := [some (.inr 16), none, none]) fX1_entries rfl rfl (Nat.le_of_ble_eq_true rfl) (fun G hN hO hR => ?_)
  have hN : G.2.2.2.2.2.2.2.2.2.2.1 = 3 := hN
  have hO : xOK U G RX1 cX1_entries 2 := hO
  refine x_iconst (v := nI 0) hO dX1_entries_0 rfl ?_
  refine x_istore_n (n := 3) hO dX1_entries_1 rfl rfl (by decide) hN ?_
  refine x_iconst (v := nI 0) hO dX1_entries_2 rfl ?_
  refine x_istore_n (n := 3) hO dX1_entries_3 rfl rfl (by decide) hN ?_
  refine upd_ind (P := fun i _ => XW U G 4 [some (.inr 16), some (.inl (nI (nC (aoc (cA M 16)) (i * 8)))), some (.inl (nI i))] [] M) 4 ?_ ?_ 4 0 rfl
  · refine x_iload_n hO dX1_entries_4 rfl rfl ?_
    refine x_iconst (v := nI 4) hO dX1_entries_5 rfl ?_
    refine x_icmp_ge (tgt := 23) hO dX1_entries_6 (by decide) (fun c => ?_) (fun c => ?_)
    · refine x_iload_n hO dX1_entries_23 rfl rfl ?_
      refine x_iret hO hR dX1_entries_24 rfl ?_
      exact ⟨rfl, rfl⟩
    · exact absurd (Int32.le_refl _) c
  · intro i d hd ih
    refine x_iload_n hO dX1_entries_4 rfl rfl ?_
    refine x_iconst (v := nI 4) hO dX1_entries_5 rfl ?_
    refine x_icmp_ge (tgt := 23) hO dX1_entries_6 (by decide) (fun c => ?_) (fun c => ?_)
    · exact absurd c (nI_ge (by omega) (by decide))
    · refine x_iload_n hO dX1_entries_9 rfl rfl ?_
      refine x_aload_n hO dX1_entries_10 rfl rfl ?_
      refine x_iload_n hO dX1_entries_11 rfl rfl ?_
      refine x_callV1 hO (k_entriesInBank U M (b := i) (by omega)) dX1_entries_12 lkX1_56 fX1_entriesInBank vX1_entriesInBank (by decide) rfl rfl rfl rfl rfl (by decide) (Nat.le_of_ble_eq_true rfl) ?_
      refine x_iadd hO dX1_entries_15 ?_
      rw [nI_add, ← aCnt_s]
      refine x_istore_n (n := 3) hO dX1_entries_16 rfl rfl (by decide) hN ?_
      refine x_iinc hO dX1_entries_17 rfl (by first | exact xinc_n _ | rfl) rfl hN ?_
      refine x_goto (tgt := 4) hO dX1_entries_20 (by decide) ?_
      exact ih
theorem aCnt_le (A : aR) : aCnt A ≤ 32 := nC_le _ _
theorem k_freeSlots (U : xP) (M : xM) : xMetI U mX1_freeSlots [.inr 16] M (fun r M' => r = nI (32 - aCnt (cA M 16)) ∧ M' = M) := by
  refine xMetI.of (ty := .int) (L := [some (.inr 16)]) fX1_freeSlots rfl rfl (Nat.le_of_ble_eq_true rfl) (fun G hN hO hR => ?_)
  have hN : G.2.2.2.2.2.2.2.2.2.2.1 = 1 := hN
  have hO : xOK U G RX1 cX1_freeSlots 3 := hO
  refine x_bipush (v := nI 32) hO dX1_freeSlots_0 rfl ?_
  refine x_aload_n hO dX1_freeSlots_2 rfl rfl ?_
  refine x_callV1 hO (k_entries U M) dX1_freeSlots_3 lkX1_60 fX1_entries vX1_entries (by decide) rfl rfl rfl rfl rfl (by decide) (Nat.le_of_ble_eq_true rfl) ?_
  refine x_isub hO dX1_freeSlots_6 ?_
  rw [pk_sub (aCnt_le _)]
  refine x_iret hO hR dX1_freeSlots_7 rfl ?_
  exact ⟨rfl, rfl⟩
theorem k_rules (U : xP) (M : xM) : xMetI U mX1_rules [.inr 16] M (fun r M' => r = nI (nC (pP0 (cA M 16)) 32) ∧ M' = M) := by
  refine xMetI.of (ty := .int) (L := [some (.inr 16), none, none]) fX1_rules rfl rfl (Nat.le_of_ble_eq_true rfl) (fun G hN hO hR => ?_)
  have hN : G.2.2.2.2.2.2.2.2.2.2.1 = 3 := hN
  have hO : xOK U G RX1 cX1_rules 1 := hO
  refine x_iconst (v := nI 0) hO dX1_rules_0 rfl ?_
  refine x_istore_n (n := 3) hO dX1_rules_1 rfl rfl (by decide) hN ?_
  refine x_iconst (v := nI 0) hO dX1_rules_2 rfl ?_
  refine x_istore_n (n := 3) hO dX1_rules_3 rfl rfl (by decide) hN ?_
  refine upd_ind (P := fun i _ => XW U G 4 [some (.inr 16), some (.inl (nI (nC (pP0 (cA M 16)) i))), some (.inl (nI i))] [] M) 32 ?_ ?_ 32 0 rfl
  · refine x_iload_n hO dX1_rules_4 rfl rfl ?_
    refine x_bipush (v := nI 32) hO dX1_rules_5 rfl ?_
    refine x_icmp_ge (tgt := 36) hO dX1_rules_7 (by decide) (fun c => ?_) (fun c => ?_)
    · refine x_iload_n hO dX1_rules_36 rfl rfl ?_
      refine x_iret hO hR dX1_rules_37 rfl ?_
      exact ⟨rfl, rfl⟩
    · exact absurd (Int32.le_refl _) c
  · intro i d hd ih
    have hi : i < 32 := by omega
    refine x_iload_n hO dX1_rules_4 rfl rfl ?_
    refine x_bipush (v := nI 32) hO dX1_rules_5 rfl ?_
    refine x_icmp_ge (tgt := 36) hO dX1_rules_7 (by decide) (fun c => ?_) (fun c => ?_)
    · exact absurd c (nI_ge hi (by decide))
    · refine x_aload_n hO dX1_rules_10 rfl rfl ?_
      refine x_iload_n hO dX1_rules_11 rfl rfl ?_
      refine x_callV1 hO (k_holds M hi) dX1_rules_12 lkX1_53 fX1_holdsEntry vX1_holdsEntry (by decide) rfl rfl rfl rfl rfl (by decide) (Nat.le_of_ble_eq_true rfl) ?_
      refine x_if_eq (tgt := 30) hO dX1_rules_15 (by decide) (fun c2 => ?_) (fun c2 => ?_)
      · refine x_iinc hO dX1_rules_30 rfl (by first | exact xinc_n _ | rfl) rfl hN ?_
        refine x_goto (tgt := 4) hO dX1_rules_33 (by decide) ?_
        rw [nC_f (by simp [pP0, bI_0 c2])] at ih
        exact ih
      · have e : M 18 i = cA M 16 i 1 := cA_in (w := 1) (bI_1 c2) (by decide)
        refine x_aload_n hO dX1_rules_18 rfl rfl ?_
        refine x_getR (T := TX1) (j := 1) hO dX1_rules_19 flX1_15 (by decide) rfl rfl (by decide) rfl rfl ?_
        refine x_iload_n hO dX1_rules_22 rfl rfl ?_
        refine x_iald hO (by decide) rfl (by decide) (rfl) (hi) dX1_rules_23 ?_
        refine x_if_ne (tgt := 30) hO dX1_rules_24 (by decide) (fun c3 => ?_) (fun c3 => ?_)
        · refine x_iinc hO dX1_rules_30 rfl (by first | exact xinc_n _ | rfl) rfl hN ?_
          refine x_goto (tgt := 4) hO dX1_rules_33 (by decide) ?_
          rw [nC_f (by rw [e] at c3; simp [pP0, c3])] at ih
          exact ih
        · refine x_iinc hO dX1_rules_27 rfl (by first | exact xinc_n _ | rfl) rfl hN ?_
          refine x_iinc hO dX1_rules_30 rfl (by first | exact xinc_n _ | rfl) rfl hN ?_
          refine x_goto (tgt := 4) hO dX1_rules_33 (by decide) ?_
          rw [nC_t (by rw [e] at c3; simp [pP0, bI_1 c2, c3])] at ih
          exact ih
theorem k_entriesOf (U : xP) (M : xM) (x : Int32) : xMetI U mX1_entriesOf [.inr 16, .inl x] M (fun r M' => r = nI (nC (pRule (cA M 16) x) 32) ∧ M' = M) := by
  refine xMetI.of (ty := .int) (L := [some (.inr 16), some (.inl x), none, none]) fX1_entriesOf rfl rfl (Nat.le_of_ble_eq_true rfl) (fun G hN hO hR => ?_)
  have hN : G.2.2.2.2.2.2.2.2.2.2.1 = 4 := hN
  have hO : xOK U G RX1 cX1_entriesOf 1 := hO
  refine x_iconst (v := nI 0) hO dX1_entriesOf_0 rfl ?_
  refine x_istore_n (n := 4) hO dX1_entriesOf_1 rfl rfl (by decide) hN ?_
  refine x_iconst (v := nI 0) hO dX1_entriesOf_2 rfl ?_
  refine x_istore_n (n := 4) hO dX1_entriesOf_3 rfl rfl (by decide) hN ?_
  refine upd_ind (P := fun i _ => XW U G 4 [some (.inr 16), some (.inl x), some (.inl (nI (nC (pRule (cA M 16) x) i))), some (.inl (nI i))] [] M) 32 ?_ ?_ 32 0 rfl
  · refine x_iload_n hO dX1_entriesOf_4 rfl rfl ?_
    refine x_bipush (v := nI 32) hO dX1_entriesOf_5 rfl ?_
    refine x_icmp_ge (tgt := 37) hO dX1_entriesOf_7 (by decide) (fun c => ?_) (fun c => ?_)
    · refine x_iload_n hO dX1_entriesOf_37 rfl rfl ?_
      refine x_iret hO hR dX1_entriesOf_38 rfl ?_
      exact ⟨rfl, rfl⟩
    · exact absurd (Int32.le_refl _) c
  · intro i d hd ih
    have hi : i < 32 := by omega
    refine x_iload_n hO dX1_entriesOf_4 rfl rfl ?_
    refine x_bipush (v := nI 32) hO dX1_entriesOf_5 rfl ?_
    refine x_icmp_ge (tgt := 37) hO dX1_entriesOf_7 (by decide) (fun c => ?_) (fun c => ?_)
    · exact absurd c (nI_ge hi (by decide))
    · refine x_aload_n hO dX1_entriesOf_10 rfl rfl ?_
      refine x_iload_n hO dX1_entriesOf_11 rfl rfl ?_
      refine x_callV1 hO (k_holds M hi) dX1_entriesOf_12 lkX1_53 fX1_holdsEntry vX1_holdsEntry (by decide) rfl rfl rfl rfl rfl (by decide) (Nat.le_of_ble_eq_true rfl) ?_
      refine x_if_eq (tgt := 31) hO dX1_entriesOf_15 (by decide) (fun c2 => ?_) (fun c2 => ?_)
      · refine x_iinc hO dX1_entriesOf_31 rfl (by first | exact xinc_n _ | rfl) rfl hN ?_
        refine x_goto (tgt := 4) hO dX1_entriesOf_34 (by decide) ?_
        rw [nC_f (by simp [pRule, bI_0 c2])] at ih
        exact ih
      · have e : M 17 i = cA M 16 i 0 := cA_in (w := 0) (bI_1 c2) (by decide)
        refine x_aload_n hO dX1_entriesOf_18 rfl rfl ?_
        refine x_getR (T := TX1) (j := 0) hO dX1_entriesOf_19 flX1_9 (by decide) rfl rfl (by decide) rfl rfl ?_
        refine x_iload_n hO dX1_entriesOf_22 rfl rfl ?_
        refine x_iald hO (by decide) rfl (by decide) (rfl) (hi) dX1_entriesOf_23 ?_
        refine x_iload_n hO dX1_entriesOf_24 rfl rfl ?_
        refine x_icmp_ne (tgt := 31) hO dX1_entriesOf_25 (by decide) (fun c3 => ?_) (fun c3 => ?_)
        · refine x_iinc hO dX1_entriesOf_31 rfl (by first | exact xinc_n _ | rfl) rfl hN ?_
          refine x_goto (tgt := 4) hO dX1_entriesOf_34 (by decide) ?_
          rw [nC_f (by rw [e] at c3; simp [pRule, c3])] at ih
          exact ih
        · refine x_iinc hO dX1_entriesOf_28 rfl (by first | exact xinc_n _ | rfl) rfl hN ?_
          refine x_iinc hO dX1_entriesOf_31 rfl (by first | exact xinc_n _ | rfl) rfl hN ?_
          refine x_goto (tgt := 4) hO dX1_entriesOf_34 (by decide) ?_
          rw [nC_t (by rw [e] at c3; simp [pRule, bI_1 c2, c3])] at ih
          exact ih
theorem k_slotHolding (U : xP) (M : xM) (x y : Int32) : xMetI U mX1_slotHolding [.inr 16, .inl x, .inl y] M (fun r M' => r = aN (nF (pPart (cA M 16) x y) 0 32) ∧ M' = M) := by
  refine xMetI.of (ty := .int) (L := [some (.inr 16), some (.inl x), some (.inl y), none]) fX1_slotHolding rfl rfl (Nat.le_of_ble_eq_true rfl) (fun G hN hO hR => ?_)
  have hN : G.2.2.2.2.2.2.2.2.2.2.1 = 4 := hN
  have hO : xOK U G RX1 cX1_slotHolding 1 := hO
  generalize hf : nF (pPart (cA M 16) x y) 0 32 = f at hR
  refine x_iconst (v := nI 0) hO dX1_slotHolding_0 rfl ?_
  refine x_istore_n (n := 4) hO dX1_slotHolding_1 rfl rfl (by decide) hN ?_
  refine upd_ind (P := fun i d => nF (pPart (cA M 16) x y) i d = f → XW U G 2 [some (.inr 16), some (.inl x), some (.inl y), some (.inl (nI i))] [] M) 32 ?_ ?_ 32 0 rfl hf
  · intro hf
    refine x_iload_n hO dX1_slotHolding_2 rfl rfl ?_
    refine x_bipush (v := nI 32) hO dX1_slotHolding_3 rfl ?_
    refine x_icmp_ge (tgt := 44) hO dX1_slotHolding_5 (by decide) (fun c => ?_) (fun c => ?_)
    · refine x_iconst (v := (-1 : Int32)) hO dX1_slotHolding_44 rfl ?_
      refine x_iret hO hR dX1_slotHolding_45 rfl ?_
      exact ⟨by rw [← hf]; rfl, rfl⟩
    · exact absurd (Int32.le_refl _) c
  · intro i d hd ih hf
    have hi : i < 32 := by omega
    refine x_iload_n hO dX1_slotHolding_2 rfl rfl ?_
    refine x_bipush (v := nI 32) hO dX1_slotHolding_3 rfl ?_
    refine x_icmp_ge (tgt := 44) hO dX1_slotHolding_5 (by decide) (fun c => ?_) (fun c => ?_)
    · exact absurd c (nI_ge hi (by decide))
    · refine x_aload_n hO dX1_slotHolding_8 rfl rfl ?_
      refine x_iload_n hO dX1_slotHolding_9 rfl rfl ?_
      refine x_callV1 hO (k_holds M hi) dX1_slotHolding_10 lkX1_53 fX1_holdsEntry vX1_holdsEntry (by decide) rfl rfl rfl rfl rfl (by decide) (Nat.le_of_ble_eq_true rfl) ?_
      refine x_if_eq (tgt := 38) hO dX1_slotHolding_13 (by decide) (fun c2 => ?_) (fun c2 => ?_)
      · refine x_iinc hO dX1_slotHolding_38 rfl (by first | exact xinc_n _ | rfl) rfl hN ?_
        refine x_goto (tgt := 2) hO dX1_slotHolding_41 (by decide) ?_
        exact ih (by rw [← hf, nF_f (by simp [pPart, bI_0 c2])])
      · have e : M 17 i = cA M 16 i 0 := cA_in (w := 0) (bI_1 c2) (by decide)
        have e1 : M 18 i = cA M 16 i 1 := cA_in (w := 1) (bI_1 c2) (by decide)
        refine x_aload_n hO dX1_slotHolding_16 rfl rfl ?_
        refine x_getR (T := TX1) (j := 0) hO dX1_slotHolding_17 flX1_9 (by decide) rfl rfl (by decide) rfl rfl ?_
        refine x_iload_n hO dX1_slotHolding_20 rfl rfl ?_
        refine x_iald hO (by decide) rfl (by decide) (rfl) (hi) dX1_slotHolding_21 ?_
        refine x_iload_n hO dX1_slotHolding_22 rfl rfl ?_
        refine x_icmp_ne (tgt := 38) hO dX1_slotHolding_23 (by decide) (fun c3 => ?_) (fun c3 => ?_)
        · refine x_iinc hO dX1_slotHolding_38 rfl (by first | exact xinc_n _ | rfl) rfl hN ?_
          refine x_goto (tgt := 2) hO dX1_slotHolding_41 (by decide) ?_
          exact ih (by rw [← hf, nF_f (by rw [e] at c3; simp [pPart, c3])])
        · refine x_aload_n hO dX1_slotHolding_26 rfl rfl ?_
          refine x_getR (T := TX1) (j := 1) hO dX1_slotHolding_27 flX1_15 (by decide) rfl rfl (by decide) rfl rfl ?_
          refine x_iload_n hO dX1_slotHolding_30 rfl rfl ?_
          refine x_iald hO (by decide) rfl (by decide) (rfl) (hi) dX1_slotHolding_31 ?_
          refine x_iload_n hO dX1_slotHolding_32 rfl rfl ?_
          refine x_icmp_ne (tgt := 38) hO dX1_slotHolding_33 (by decide) (fun c4 => ?_) (fun c4 => ?_)
          · refine x_iinc hO dX1_slotHolding_38 rfl (by first | exact xinc_n _ | rfl) rfl hN ?_
            refine x_goto (tgt := 2) hO dX1_slotHolding_41 (by decide) ?_
            exact ih (by rw [← hf, nF_f (by rw [e1] at c4; simp [pPart, c4])])
          · refine x_iload_n hO dX1_slotHolding_36 rfl rfl ?_
            refine x_iret hO hR dX1_slotHolding_37 rfl ?_
            exact ⟨by rw [← hf, nF_t (by rw [e] at c3; rw [e1] at c4; simp [pPart, bI_1 c2, c3, c4])]; simp [aN, hi], rfl⟩
theorem k_lastSlotUpTo (U : xP) (M : xM) (x : Int32) : xMetI U mX1_lastSlotUpTo [.inr 16, .inl x] M (fun r M' => r = xm (nL (pUp (cA M 16) x) 32) ∧ M' = M) := by
  refine xMetI.of (ty := .int) (L := [some (.inr 16), some (.inl x), none]) fX1_lastSlotUpTo rfl rfl (Nat.le_of_ble_eq_true rfl) (fun G hN hO hR => ?_)
  have hN : G.2.2.2.2.2.2.2.2.2.2.1 = 3 := hN
  have hO : xOK U G RX1 cX1_lastSlotUpTo 1 := hO
  generalize hf : nL (pUp (cA M 16) x) 32 = f at hR
  refine x_bipush (v := nI 31) hO dX1_lastSlotUpTo_0 rfl ?_
  refine x_istore_n (n := 3) hO dX1_lastSlotUpTo_2 rfl rfl (by decide) hN ?_
  have loop : ∀ k, k ≤ 32 → nL (pUp (cA M 16) x) k = f → XW U G 3 [some (.inr 16), some (.inl x), some (.inl (xm k))] [] M := by
    intro k
    induction k with
    | zero =>
      intro _ hf
      refine x_iload_n hO dX1_lastSlotUpTo_3 rfl rfl ?_
      refine x_if_lt (tgt := 33) hO dX1_lastSlotUpTo_4 (by decide) (fun c => ?_) (fun c => ?_)
      · refine x_iconst (v := (-1 : Int32)) hO dX1_lastSlotUpTo_33 rfl ?_
        refine x_iret hO hR dX1_lastSlotUpTo_34 rfl ?_
        exact ⟨by rw [← hf]; rfl, rfl⟩
      · exact absurd (by decide) c
    | succ i ih =>
      intro hi hf
      have hi : i < 32 := by omega
      refine x_iload_n hO dX1_lastSlotUpTo_3 rfl rfl ?_
      refine x_if_lt (tgt := 33) hO dX1_lastSlotUpTo_4 (by decide) (fun c => ?_) (fun c => ?_)
      · exact absurd c (nI_pos (by omega))
      · refine x_aload_n hO dX1_lastSlotUpTo_7 rfl rfl ?_
        refine x_iload_n hO dX1_lastSlotUpTo_8 rfl rfl ?_
        refine x_callV1 hO (k_holds M hi) dX1_lastSlotUpTo_9 lkX1_53 fX1_holdsEntry vX1_holdsEntry (by decide) rfl rfl rfl rfl rfl (by decide) (Nat.le_of_ble_eq_true rfl) ?_
        refine x_if_eq (tgt := 27) hO dX1_lastSlotUpTo_12 (by decide) (fun c2 => ?_) (fun c2 => ?_)
        · refine x_iinc hO dX1_lastSlotUpTo_27 rfl (xm_dec i) rfl hN ?_
          refine x_goto (tgt := 3) hO dX1_lastSlotUpTo_30 (by decide) ?_
          exact ih (by omega) (by rw [← hf, nL_f (by simp [pUp, bI_0 c2])])
        · have e : M 21 i = cA M 16 i 4 := cA_in (w := 4) (bI_1 c2) (by decide)
          refine x_aload_n hO dX1_lastSlotUpTo_15 rfl rfl ?_
          refine x_getR (T := TX1) (j := 4) hO dX1_lastSlotUpTo_16 flX1_24 (by decide) rfl rfl (by decide) rfl rfl ?_
          refine x_iload_n hO dX1_lastSlotUpTo_19 rfl rfl ?_
          refine x_iald hO (by decide) rfl (by decide) (rfl) (hi) dX1_lastSlotUpTo_20 ?_
          refine x_iload_n hO dX1_lastSlotUpTo_21 rfl rfl ?_
          refine x_icmp_gt (tgt := 27) hO dX1_lastSlotUpTo_22 (by decide) (fun c3 => ?_) (fun c3 => ?_)
          · refine x_iinc hO dX1_lastSlotUpTo_27 rfl (xm_dec i) rfl hN ?_
            refine x_goto (tgt := 3) hO dX1_lastSlotUpTo_30 (by decide) ?_
            exact ih (by omega) (by rw [← hf, nL_f (by rw [e] at c3; simp [pUp, Int32.not_le.mpr c3])])
          · refine x_iload_n hO dX1_lastSlotUpTo_25 rfl rfl ?_
            refine x_iret hO hR dX1_lastSlotUpTo_26 rfl ?_
            exact ⟨by rw [← hf, nL_t (by rw [e] at c3; simp [pUp, bI_1 c2, Int32.not_lt.mp c3])], rfl⟩
  exact loop 32 (Nat.le_refl _) hf
theorem k_firstSlotBeyond (U : xP) (M : xM) (x : Int32) : xMetI U mX1_firstSlotBeyond [.inr 16, .inl x] M (fun r M' => r = nI (nF (pBy (cA M 16) x) 0 32) ∧ M' = M) := by
  refine xMetI.of (ty := .int) (L := [some (.inr 16), some (.inl x), none]) fX1_firstSlotBeyond rfl rfl (Nat.le_of_ble_eq_true rfl) (fun G hN hO hR => ?_)
  have hN : G.2.2.2.2.2.2.2.2.2.2.1 = 3 := hN
  have hO : xOK U G RX1 cX1_firstSlotBeyond 1 := hO
  generalize hf : nF (pBy (cA M 16) x) 0 32 = f at hR
  refine x_iconst (v := nI 0) hO dX1_firstSlotBeyond_0 rfl ?_
  refine x_istore_n (n := 3) hO dX1_firstSlotBeyond_1 rfl rfl (by decide) hN ?_
  refine upd_ind (P := fun i d => nF (pBy (cA M 16) x) i d = f → XW U G 2 [some (.inr 16), some (.inl x), some (.inl (nI i))] [] M) 32 ?_ ?_ 32 0 rfl hf
  · intro hf
    refine x_iload_n hO dX1_firstSlotBeyond_2 rfl rfl ?_
    refine x_bipush (v := nI 32) hO dX1_firstSlotBeyond_3 rfl ?_
    refine x_icmp_ge (tgt := 34) hO dX1_firstSlotBeyond_5 (by decide) (fun c => ?_) (fun c => ?_)
    · refine x_bipush (v := nI 32) hO dX1_firstSlotBeyond_34 rfl ?_
      refine x_iret hO hR dX1_firstSlotBeyond_36 rfl ?_
      exact ⟨by rw [← hf]; rfl, rfl⟩
    · exact absurd (Int32.le_refl _) c
  · intro i d hd ih hf
    have hi : i < 32 := by omega
    refine x_iload_n hO dX1_firstSlotBeyond_2 rfl rfl ?_
    refine x_bipush (v := nI 32) hO dX1_firstSlotBeyond_3 rfl ?_
    refine x_icmp_ge (tgt := 34) hO dX1_firstSlotBeyond_5 (by decide) (fun c => ?_) (fun c => ?_)
    · exact absurd c (nI_ge hi (by decide))
    · refine x_aload_n hO dX1_firstSlotBeyond_8 rfl rfl ?_
      refine x_iload_n hO dX1_firstSlotBeyond_9 rfl rfl ?_
      refine x_callV1 hO (k_holds M hi) dX1_firstSlotBeyond_10 lkX1_53 fX1_holdsEntry vX1_holdsEntry (by decide) rfl rfl rfl rfl rfl (by decide) (Nat.le_of_ble_eq_true rfl) ?_
      refine x_if_eq (tgt := 28) hO dX1_firstSlotBeyond_13 (by decide) (fun c2 => ?_) (fun c2 => ?_)
      · refine x_iinc hO dX1_firstSlotBeyond_28 rfl (by first | exact xinc_n _ | rfl) rfl hN ?_
        refine x_goto (tgt := 2) hO dX1_firstSlotBeyond_31 (by decide) ?_
        exact ih (by rw [← hf, nF_f (by simp [pBy, bI_0 c2])])
      · have e : M 21 i = cA M 16 i 4 := cA_in (w := 4) (bI_1 c2) (by decide)
        refine x_aload_n hO dX1_firstSlotBeyond_16 rfl rfl ?_
        refine x_getR (T := TX1) (j := 4) hO dX1_firstSlotBeyond_17 flX1_24 (by decide) rfl rfl (by decide) rfl rfl ?_
        refine x_iload_n hO dX1_firstSlotBeyond_20 rfl rfl ?_
        refine x_iald hO (by decide) rfl (by decide) (rfl) (hi) dX1_firstSlotBeyond_21 ?_
        refine x_iload_n hO dX1_firstSlotBeyond_22 rfl rfl ?_
        refine x_icmp_le (tgt := 28) hO dX1_firstSlotBeyond_23 (by decide) (fun c3 => ?_) (fun c3 => ?_)
        · refine x_iinc hO dX1_firstSlotBeyond_28 rfl (by first | exact xinc_n _ | rfl) rfl hN ?_
          refine x_goto (tgt := 2) hO dX1_firstSlotBeyond_31 (by decide) ?_
          exact ih (by rw [← hf, nF_f (by rw [e] at c3; simp [pBy, Int32.not_lt.mpr c3])])
        · refine x_iload_n hO dX1_firstSlotBeyond_26 rfl rfl ?_
          refine x_iret hO hR dX1_firstSlotBeyond_27 rfl ?_
          exact ⟨by rw [← hf, nF_t (by rw [e] at c3; simp [pBy, bI_1 c2, Int32.not_le.mp c3])], rfl⟩
def pFr (A : aR) (s : Nat) : Bool := !aoc A s
/-- how many moves to the next slots from f on; 33 if there is no way -/
def aMu (A : aR) (f : Nat) : Nat := if nF (pFr A) f (32 - f) < 32 then nF (pFr A) f (32 - f) - f else 33
/-- how many moves to the previous slots from k - 1 down; 33 if there is no way -/
def aMd (A : aR) (k : Nat) : Nat := if nL (pFr A) k = 0 then 33 else k - nL (pFr A) k
theorem k_movesUpFrom (U : xP) (M : xM) {f : Nat} (hfl : f ≤ 32) : xMetI U mX1_movesUpFrom [.inr 16, .inl (nI f)] M (fun r M' => r = nI (aMu (cA M 16) f) ∧ M' = M) := by
  refine xMetI.of (ty := .int) (L := [some (.inr 16), some (.inl (nI f)), none]) fX1_movesUpFrom rfl rfl (Nat.le_of_ble_eq_true rfl) (fun G hN hO hR => ?_)
  have hN : G.2.2.2.2.2.2.2.2.2.2.1 = 3 := hN
  have hO : xOK U G RX1 cX1_movesUpFrom 1 := hO
  generalize hg : nF (pFr (cA M 16)) f (32 - f) = g
  have hgs : aMu (cA M 16) f = if g < 32 then g - f else 33 := by unfold aMu; rw [hg]
  rw [hgs] at hR
  clear hgs
  refine x_iload_n hO dX1_movesUpFrom_0 rfl rfl ?_
  refine x_istore_n (n := 3) hO dX1_movesUpFrom_1 rfl rfl (by decide) hN ?_
  refine upd_ind (P := fun i d => f ≤ i → nF (pFr (cA M 16)) i d = g → XW U G 2 [some (.inr 16), some (.inl (nI f)), some (.inl (nI i))] [] M) 32 ?_ ?_ (32 - f) f (by omega) (Nat.le_refl _) hg
  · intro _ hg
    refine x_iload_n hO dX1_movesUpFrom_2 rfl rfl ?_
    refine x_bipush (v := nI 32) hO dX1_movesUpFrom_3 rfl ?_
    refine x_icmp_ge (tgt := 26) hO dX1_movesUpFrom_5 (by decide) (fun c => ?_) (fun c => ?_)
    · refine x_bipush (v := nI 33) hO dX1_movesUpFrom_26 rfl ?_
      refine x_iret hO hR dX1_movesUpFrom_28 rfl ?_
      exact ⟨by rw [← hg]; rfl, rfl⟩
    · exact absurd (Int32.le_refl _) c
  · intro i d hd ih hfi hg
    have hi : i < 32 := by omega
    refine x_iload_n hO dX1_movesUpFrom_2 rfl rfl ?_
    refine x_bipush (v := nI 32) hO dX1_movesUpFrom_3 rfl ?_
    refine x_icmp_ge (tgt := 26) hO dX1_movesUpFrom_5 (by decide) (fun c => ?_) (fun c => ?_)
    · exact absurd c (nI_ge hi (by decide))
    · refine x_aload_n hO dX1_movesUpFrom_8 rfl rfl ?_
      refine x_iload_n hO dX1_movesUpFrom_9 rfl rfl ?_
      refine x_callV1 hO (k_holds M hi) dX1_movesUpFrom_10 lkX1_53 fX1_holdsEntry vX1_holdsEntry (by decide) rfl rfl rfl rfl rfl (by decide) (Nat.le_of_ble_eq_true rfl) ?_
      refine x_if_ne (tgt := 20) hO dX1_movesUpFrom_13 (by decide) (fun c2 => ?_) (fun c2 => ?_)
      · refine x_iinc hO dX1_movesUpFrom_20 rfl (by first | exact xinc_n _ | rfl) rfl hN ?_
        refine x_goto (tgt := 2) hO dX1_movesUpFrom_23 (by decide) ?_
        exact ih (by omega) (by rw [← hg, nF_f (by simp [pFr, bI_1 c2])])
      · refine x_iload_n hO dX1_movesUpFrom_16 rfl rfl ?_
        refine x_iload_n hO dX1_movesUpFrom_17 rfl rfl ?_
        refine x_isub hO dX1_movesUpFrom_18 ?_
        rw [pk_sub hfi]
        refine x_iret hO hR dX1_movesUpFrom_19 rfl ?_
        exact ⟨by rw [← hg, nF_t (by simp [pFr, bI_0 c2])]; simp [hi], rfl⟩
theorem xm_sub {a b : Nat} (h : b ≤ a) (hb : 0 < b) : xm a - xm b = nI (a - b) := by
  obtain ⟨b, rfl⟩ : ∃ c, b = c + 1 := ⟨b - 1, by omega⟩
  obtain ⟨a, rfl⟩ : ∃ c, a = c + 1 := ⟨a - 1, by omega⟩
  rw [xm_s, xm_s, pk_sub (by omega)]
  congr 1
  omega
theorem k_movesDownFrom (U : xP) (M : xM) {k : Nat} (hkl : k ≤ 32) : xMetI U mX1_movesDownFrom [.inr 16, .inl (xm k)] M (fun r M' => r = nI (aMd (cA M 16) k) ∧ M' = M) := by
  refine xMetI.of (ty := .int) (L := [some (.inr 16), some (.inl (xm k)), none]) fX1_movesDownFrom rfl rfl (Nat.le_of_ble_eq_true rfl) (fun G hN hO hR => ?_)
  have hN : G.2.2.2.2.2.2.2.2.2.2.1 = 3 := hN
  have hO : xOK U G RX1 cX1_movesDownFrom 1 := hO
  generalize hg : nL (pFr (cA M 16)) k = g
  have hgs : aMd (cA M 16) k = if g = 0 then 33 else k - g := by unfold aMd; rw [hg]
  rw [hgs] at hR
  clear hgs
  refine x_iload_n hO dX1_movesDownFrom_0 rfl rfl ?_
  refine x_istore_n (n := 3) hO dX1_movesDownFrom_1 rfl rfl (by decide) hN ?_
  have loop : ∀ i, i ≤ k → nL (pFr (cA M 16)) i = g → XW U G 2 [some (.inr 16), some (.inl (xm k)), some (.inl (xm i))] [] M := by
    intro i
    induction i with
    | zero =>
      intro _ hg
      refine x_iload_n hO dX1_movesDownFrom_2 rfl rfl ?_
      refine x_if_lt (tgt := 24) hO dX1_movesDownFrom_3 (by decide) (fun c => ?_) (fun c => ?_)
      · refine x_bipush (v := nI 33) hO dX1_movesDownFrom_24 rfl ?_
        refine x_iret hO hR dX1_movesDownFrom_26 rfl ?_
        exact ⟨by rw [← hg]; rfl, rfl⟩
      · exact absurd (by decide) c
    | succ i ih =>
      intro hik hg
      have hi : i < 32 := by omega
      refine x_iload_n hO dX1_movesDownFrom_2 rfl rfl ?_
      refine x_if_lt (tgt := 24) hO dX1_movesDownFrom_3 (by decide) (fun c => ?_) (fun c => ?_)
      · exact absurd c (nI_pos (by omega))
      · refine x_aload_n hO dX1_movesDownFrom_6 rfl rfl ?_
        refine x_iload_n hO dX1_movesDownFrom_7 rfl rfl ?_
        refine x_callV1 hO (k_holds M hi) dX1_movesDownFrom_8 lkX1_53 fX1_holdsEntry vX1_holdsEntry (by decide) rfl rfl rfl rfl rfl (by decide) (Nat.le_of_ble_eq_true rfl) ?_
        refine x_if_ne (tgt := 18) hO dX1_movesDownFrom_11 (by decide) (fun c2 => ?_) (fun c2 => ?_)
        · refine x_iinc hO dX1_movesDownFrom_18 rfl (xm_dec i) rfl hN ?_
          refine x_goto (tgt := 2) hO dX1_movesDownFrom_21 (by decide) ?_
          exact ih (by omega) (by rw [← hg, nL_f (by simp [pFr, bI_1 c2])])
        · refine x_iload_n hO dX1_movesDownFrom_14 rfl rfl ?_
          refine x_iload_n hO dX1_movesDownFrom_15 rfl rfl ?_
          refine x_isub hO dX1_movesDownFrom_16 ?_
          rw [xm_sub hik (by omega)]
          refine x_iret hO hR dX1_movesDownFrom_17 rfl ?_
          exact ⟨by rw [← hg, nL_t (by simp [pFr, bI_0 c2])]; simp, rfl⟩
  exact loop k (Nat.le_refl _) hg
end
section
theorem k_min (U : xP) (M : xM) (a b : Nat) (ha : a < 2 ^ 31) (hb : b < 2 ^ 31) : xMetI U mJ9_min_7cf53 [.inl (nI a), .inl (nI b)] M (fun r M' => r = nI (min a b) ∧ M' = M) := by
  refine xMetI.of (ty := .int) (L := [some (.inl (nI a)), some (.inl (nI b))]) fJ9_min_7cf53 rfl rfl (Nat.le_of_ble_eq_true rfl) (fun G hN hO hR => ?_)
  have hN : G.2.2.2.2.2.2.2.2.2.2.1 = 2 := hN
  have hO : xOK U G RJ9 cJ9_min_7cf53 0 := hO
  refine x_iload_n hO dJ9_min_7cf53_0 rfl rfl ?_
  refine x_iload_n hO dJ9_min_7cf53_1 rfl rfl ?_
  refine x_icmp_gt (tgt := 9) hO dJ9_min_7cf53_2 (by decide) (fun c => ?_) (fun c => ?_)
  · refine x_iload_n hO dJ9_min_7cf53_9 rfl rfl ?_
    refine x_iret hO hR dJ9_min_7cf53_10 rfl ?_
    exact ⟨by rw [Nat.min_eq_right (Nat.le_of_lt ((nI_ltI hb ha).mp c))], rfl⟩
  · refine x_iload_n hO dJ9_min_7cf53_5 rfl rfl ?_
    refine x_goto (tgt := 10) hO dJ9_min_7cf53_6 (by decide) ?_
    refine x_iret hO hR dJ9_min_7cf53_10 rfl ?_
    exact ⟨by rw [Nat.min_eq_left (Nat.not_lt.mp (fun q => c ((nI_ltI hb ha).mpr q)))], rfl⟩
theorem k_slotFoundBy (U : xP) (M : xM) (x : Int32) : xMetI U mX1_slotFoundBy [.inr 16, .inl x] M (fun r M' => r = aN (aFd (cA M 16) x) ∧ M' = M) := by
  refine xMetI.of (ty := .int) (L := [some (.inr 16), some (.inl x), none]) fX1_slotFoundBy rfl rfl (Nat.le_of_ble_eq_true rfl) (fun G hN hO hR => ?_)
  have hN : G.2.2.2.2.2.2.2.2.2.2.1 = 3 := hN
  have hO : xOK U G RX1 cX1_slotFoundBy 1 := hO
  generalize hf : aFd (cA M 16) x = f at hR
  refine x_iconst (v := nI 0) hO dX1_slotFoundBy_0 rfl ?_
  refine x_istore_n (n := 3) hO dX1_slotFoundBy_1 rfl rfl (by decide) hN ?_
  refine upd_ind (P := fun i d => nF (pKey (cA M 16) x) i d = f → XW U G 2 [some (.inr 16), some (.inl x), some (.inl (nI i))] [] M) 32 ?_ ?_ 32 0 rfl hf
  · intro hf
    refine x_iload_n hO dX1_slotFoundBy_2 rfl rfl ?_
    refine x_bipush (v := nI 32) hO dX1_slotFoundBy_3 rfl ?_
    refine x_icmp_ge (tgt := 41) hO dX1_slotFoundBy_5 (by decide) (fun c => ?_) (fun c => ?_)
    · refine x_iconst (v := (-1 : Int32)) hO dX1_slotFoundBy_41 rfl ?_
      refine x_iret hO hR dX1_slotFoundBy_42 rfl ?_
      exact ⟨by rw [← hf]; rfl, rfl⟩
    · exact absurd (Int32.le_refl _) c
  · intro i d hd ih hf
    have hi : i < 32 := by omega
    refine x_iload_n hO dX1_slotFoundBy_2 rfl rfl ?_
    refine x_bipush (v := nI 32) hO dX1_slotFoundBy_3 rfl ?_
    refine x_icmp_ge (tgt := 41) hO dX1_slotFoundBy_5 (by decide) (fun c => ?_) (fun c => ?_)
    · exact absurd c (nI_ge hi (by decide))
    · refine x_aload_n hO dX1_slotFoundBy_8 rfl rfl ?_
      refine x_iload_n hO dX1_slotFoundBy_9 rfl rfl ?_
      refine x_callV1 hO (k_holds M hi) dX1_slotFoundBy_10 lkX1_53 fX1_holdsEntry vX1_holdsEntry (by decide) rfl rfl rfl rfl rfl (by decide) (Nat.le_of_ble_eq_true rfl) ?_
      refine x_if_eq (tgt := 35) hO dX1_slotFoundBy_13 (by decide) (fun c2 => ?_) (fun c2 => ?_)
      · refine x_iinc hO dX1_slotFoundBy_35 rfl (by first | exact xinc_n _ | rfl) rfl hN ?_
        refine x_goto (tgt := 2) hO dX1_slotFoundBy_38 (by decide) ?_
        exact ih (by rw [← hf, nF_f (by simp [pKey, bI_0 c2])])
      · have e : M 19 i = cA M 16 i 2 := cA_in (w := 2) (bI_1 c2) (by decide)
        have e1 : M 20 i = cA M 16 i 3 := cA_in (w := 3) (bI_1 c2) (by decide)
        refine x_iload_n hO dX1_slotFoundBy_16 rfl rfl ?_
        refine x_aload_n hO dX1_slotFoundBy_17 rfl rfl ?_
        refine x_getR (T := TX1) (j := 2) hO dX1_slotFoundBy_18 flX1_18 (by decide) rfl rfl (by decide) rfl rfl ?_
        refine x_iload_n hO dX1_slotFoundBy_21 rfl rfl ?_
        refine x_iald hO (by decide) rfl (by decide) (rfl) (hi) dX1_slotFoundBy_22 ?_
        refine x_iand hO dX1_slotFoundBy_23 ?_
        refine x_aload_n hO dX1_slotFoundBy_24 rfl rfl ?_
        refine x_getR (T := TX1) (j := 3) hO dX1_slotFoundBy_25 flX1_21 (by decide) rfl rfl (by decide) rfl rfl ?_
        refine x_iload_n hO dX1_slotFoundBy_28 rfl rfl ?_
        refine x_iald hO (by decide) rfl (by decide) (rfl) (hi) dX1_slotFoundBy_29 ?_
        rw [e, e1]
        refine x_icmp_ne (tgt := 35) hO dX1_slotFoundBy_30 (by decide) (fun c3 => ?_) (fun c3 => ?_)
        · refine x_iinc hO dX1_slotFoundBy_35 rfl (by first | exact xinc_n _ | rfl) rfl hN ?_
          refine x_goto (tgt := 2) hO dX1_slotFoundBy_38 (by decide) ?_
          exact ih (by rw [← hf, nF_f (by simp [pKey, c3])])
        · refine x_iload_n hO dX1_slotFoundBy_33 rfl rfl ?_
          refine x_iret hO hR dX1_slotFoundBy_34 rfl ?_
          exact ⟨by rw [← hf, nF_t (by simp [pKey, bI_1 c2, c3])]; simp [aN, hi], rfl⟩
/-- the keys that the slot x finds, -1: that find none -/
def aKs (A : aR) (x : Int32) (n : Nat) : Nat := nC (fun k => aN (aFd A (nI k)) == x) n
theorem k_keysFinding (U : xP) (M : xM) (x : Int32) : xMetI U mX1_keysFinding [.inr 16, .inl x] M (fun r M' => r = nI (aKs (cA M 16) x 256) ∧ M' = M) := by
  refine xMetI.of (ty := .int) (L := [some (.inr 16), some (.inl x), none, none]) fX1_keysFinding rfl rfl (Nat.le_of_ble_eq_true rfl) (fun G hN hO hR => ?_)
  have hN : G.2.2.2.2.2.2.2.2.2.2.1 = 4 := hN
  have hO : xOK U G RX1 cX1_keysFinding 2 := hO
  refine x_iconst (v := nI 0) hO dX1_keysFinding_0 rfl ?_
  refine x_istore_n (n := 4) hO dX1_keysFinding_1 rfl rfl (by decide) hN ?_
  refine x_iconst (v := nI 0) hO dX1_keysFinding_2 rfl ?_
  refine x_istore_n (n := 4) hO dX1_keysFinding_3 rfl rfl (by decide) hN ?_
  refine upd_ind (P := fun i _ => XW U G 4 [some (.inr 16), some (.inl x), some (.inl (nI (aKs (cA M 16) x i))), some (.inl (nI i))] [] M) 256 ?_ ?_ 256 0 rfl
  · refine x_iload_n hO dX1_keysFinding_4 rfl rfl ?_
    refine x_sipush (v := nI 256) hO dX1_keysFinding_5 rfl ?_
    refine x_icmp_ge (tgt := 29) hO dX1_keysFinding_8 (by decide) (fun c => ?_) (fun c => ?_)
    · refine x_iload_n hO dX1_keysFinding_29 rfl rfl ?_
      refine x_iret hO hR dX1_keysFinding_30 rfl ?_
      exact ⟨rfl, rfl⟩
    · exact absurd (Int32.le_refl _) c
  · intro i d hd ih
    have hi : i < 256 := by omega
    refine x_iload_n hO dX1_keysFinding_4 rfl rfl ?_
    refine x_sipush (v := nI 256) hO dX1_keysFinding_5 rfl ?_
    refine x_icmp_ge (tgt := 29) hO dX1_keysFinding_8 (by decide) (fun c => ?_) (fun c => ?_)
    · exact absurd c (nI_ge hi (by decide))
    · refine x_aload_n hO dX1_keysFinding_11 rfl rfl ?_
      refine x_iload_n hO dX1_keysFinding_12 rfl rfl ?_
      refine x_callV1 hO (k_slotFoundBy U M (nI i)) dX1_keysFinding_13 lkX1_111 fX1_slotFoundBy vX1_slotFoundBy (by decide) rfl rfl rfl rfl rfl (by decide) (Nat.le_of_ble_eq_true rfl) ?_
      refine x_iload_n hO dX1_keysFinding_16 rfl rfl ?_
      refine x_icmp_ne (tgt := 23) hO dX1_keysFinding_17 (by decide) (fun c2 => ?_) (fun c2 => ?_)
      · refine x_iinc hO dX1_keysFinding_23 rfl (by first | exact xinc_n _ | rfl) rfl hN ?_
        refine x_goto (tgt := 4) hO dX1_keysFinding_26 (by decide) ?_
        have e : aKs (cA M 16) x (i + 1) = aKs (cA M 16) x i := nC_f (by simp [c2])
        rw [e] at ih
        exact ih
      · refine x_iinc hO dX1_keysFinding_20 rfl (by first | exact xinc_n _ | rfl) rfl hN ?_
        refine x_iinc hO dX1_keysFinding_23 rfl (by first | exact xinc_n _ | rfl) rfl hN ?_
        refine x_goto (tgt := 4) hO dX1_keysFinding_26 (by decide) ?_
        have e : aKs (cA M 16) x (i + 1) = aKs (cA M 16) x i + 1 := nC_t (by simp [c2])
        rw [e] at ih
        exact ih
/-- a shift to the right with zeros, as the machine does it -/
def us (x : Int32) (n : Nat) : Int32 := (x.toUInt32 >>> ((nI n).toUInt32 &&& Int32.toUInt32 31)).toInt32
def bcI (x : Int32) : Int32 :=
  let a := x - (us x 1 &&& 1431655765)
  let b := (a &&& 858993459) + (us a 2 &&& 858993459)
  let c := (b + us b 4) &&& 252645135
  let d := c + us c 8
  let e := d + us d 16
  e &&& nI 63
theorem k_bitCount (U : xP) (M : xM) (x : Int32) : xMetI U mJ6_bitCount_0f7a4 [.inl x] M (fun r M' => r = bcI x ∧ M' = M) := by
  refine xMetI.of (ty := .int) (L := [some (.inl x)]) fJ6_bitCount_0f7a4 rfl rfl (Nat.le_of_ble_eq_true rfl) (fun G hN hO hR => ?_)
  have hN : G.2.2.2.2.2.2.2.2.2.2.1 = 1 := hN
  have hO : xOK U G RJ6 cJ6_bitCount_0f7a4 0 := hO
  refine x_iload_n hO dJ6_bitCount_0f7a4_0 rfl rfl ?_
  refine x_iload_n hO dJ6_bitCount_0f7a4_1 rfl rfl ?_
  refine x_iconst (v := nI 1) hO dJ6_bitCount_0f7a4_2 rfl ?_
  refine x_iushr hO dJ6_bitCount_0f7a4_3 rfl ?_
  refine x_ldcw (v := (1431655765 : Int32)) hO (xg_r (i := 348) (by decide +kernel) rfl) dJ6_bitCount_0f7a4_4 ?_
  refine x_iand hO dJ6_bitCount_0f7a4_7 ?_
  refine x_isub hO dJ6_bitCount_0f7a4_8 ?_
  refine x_istore_n (n := 1) hO dJ6_bitCount_0f7a4_9 rfl rfl (by decide) hN ?_
  refine x_iload_n hO dJ6_bitCount_0f7a4_10 rfl rfl ?_
  refine x_ldcw (v := (858993459 : Int32)) hO (xg_r (i := 349) (by decide +kernel) rfl) dJ6_bitCount_0f7a4_11 ?_
  refine x_iand hO dJ6_bitCount_0f7a4_14 ?_
  refine x_iload_n hO dJ6_bitCount_0f7a4_15 rfl rfl ?_
  refine x_iconst (v := nI 2) hO dJ6_bitCount_0f7a4_16 rfl ?_
  refine x_iushr hO dJ6_bitCount_0f7a4_17 rfl ?_
  refine x_ldcw (v := (858993459 : Int32)) hO (xg_r (i := 349) (by decide +kernel) rfl) dJ6_bitCount_0f7a4_18 ?_
  refine x_iand hO dJ6_bitCount_0f7a4_21 ?_
  refine x_iadd hO dJ6_bitCount_0f7a4_22 ?_
  refine x_istore_n (n := 1) hO dJ6_bitCount_0f7a4_23 rfl rfl (by decide) hN ?_
  refine x_iload_n hO dJ6_bitCount_0f7a4_24 rfl rfl ?_
  refine x_iload_n hO dJ6_bitCount_0f7a4_25 rfl rfl ?_
  refine x_iconst (v := nI 4) hO dJ6_bitCount_0f7a4_26 rfl ?_
  refine x_iushr hO dJ6_bitCount_0f7a4_27 rfl ?_
  refine x_iadd hO dJ6_bitCount_0f7a4_28 ?_
  refine x_ldcw (v := (252645135 : Int32)) hO (xg_r (i := 350) (by decide +kernel) rfl) dJ6_bitCount_0f7a4_29 ?_
  refine x_iand hO dJ6_bitCount_0f7a4_32 ?_
  refine x_istore_n (n := 1) hO dJ6_bitCount_0f7a4_33 rfl rfl (by decide) hN ?_
  refine x_iload_n hO dJ6_bitCount_0f7a4_34 rfl rfl ?_
  refine x_iload_n hO dJ6_bitCount_0f7a4_35 rfl rfl ?_
  refine x_bipush (v := nI 8) hO dJ6_bitCount_0f7a4_36 rfl ?_
  refine x_iushr hO dJ6_bitCount_0f7a4_38 rfl ?_
  refine x_iadd hO dJ6_bitCount_0f7a4_39 ?_
  refine x_istore_n (n := 1) hO dJ6_bitCount_0f7a4_40 rfl rfl (by decide) hN ?_
  refine x_iload_n hO dJ6_bitCount_0f7a4_41 rfl rfl ?_
  refine x_iload_n hO dJ6_bitCount_0f7a4_42 rfl rfl ?_
  refine x_bipush (v := nI 16) hO dJ6_bitCount_0f7a4_43 rfl ?_
  refine x_iushr hO dJ6_bitCount_0f7a4_45 rfl ?_
  refine x_iadd hO dJ6_bitCount_0f7a4_46 ?_
  refine x_istore_n (n := 1) hO dJ6_bitCount_0f7a4_47 rfl rfl (by decide) hN ?_
  refine x_iload_n hO dJ6_bitCount_0f7a4_48 rfl rfl ?_
  refine x_bipush (v := nI 63) hO dJ6_bitCount_0f7a4_49 rfl ?_
  refine x_iand hO dJ6_bitCount_0f7a4_51 ?_
  refine x_iret hO hR dJ6_bitCount_0f7a4_52 rfl ?_
  exact ⟨rfl, rfl⟩
/-- the slots that the keys below k find, as bits -/
def aFB (A : aR) : Nat → Int32
  | 0 => nI 0
  | k + 1 => if aFd A (nI k) < 32 then aFB A k ||| (nI 1 <<< (nI (aFd A (nI k)) &&& 31)) else aFB A k
theorem k_entriesNeverFound (U : xP) (M : xM) : xMetI U mX1_entriesNeverFound [.inr 16] M (fun r M' => r = nI (aCnt (cA M 16)) - bcI (aFB (cA M 16) 256) ∧ M' = M) := by
  refine xMetI.of (ty := .int) (L := [some (.inr 16), none, none, none]) fX1_entriesNeverFound rfl rfl (Nat.le_of_ble_eq_true rfl) (fun G hN hO hR => ?_)
  have hN : G.2.2.2.2.2.2.2.2.2.2.1 = 4 := hN
  have hO : xOK U G RX1 cX1_entriesNeverFound 3 := hO
  refine x_iconst (v := nI 0) hO dX1_entriesNeverFound_0 rfl ?_
  refine x_istore_n (n := 4) hO dX1_entriesNeverFound_1 rfl rfl (by decide) hN ?_
  refine x_iconst (v := nI 0) hO dX1_entriesNeverFound_2 rfl ?_
  refine x_istore_n (n := 4) hO dX1_entriesNeverFound_3 rfl rfl (by decide) hN ?_
  refine upd_ind (P := fun i _ => ∀ o, XW U G 4 [some (.inr 16), some (.inl (aFB (cA M 16) i)), some (.inl (nI i)), o] [] M) 256 ?_ ?_ 256 0 rfl _
  · intro o
    refine x_iload_n hO dX1_entriesNeverFound_4 rfl rfl ?_
    refine x_sipush (v := nI 256) hO dX1_entriesNeverFound_5 rfl ?_
    refine x_icmp_ge (tgt := 34) hO dX1_entriesNeverFound_8 (by decide) (fun c => ?_) (fun c => ?_)
    · refine x_aload_n hO dX1_entriesNeverFound_34 rfl rfl ?_
      refine x_callV1 hO (k_entries U M) dX1_entriesNeverFound_35 lkX1_60 fX1_entries vX1_entries (by decide) rfl rfl rfl rfl rfl (by decide) (Nat.le_of_ble_eq_true rfl) ?_
      refine x_iload_n hO dX1_entriesNeverFound_38 rfl rfl ?_
      refine x_callS1 hO (k_bitCount U M _) dX1_entriesNeverFound_39 lkX1_114 fJ6_bitCount_0f7a4 sJ6_bitCount_0f7a4 rfl rfl (by decide) (Nat.le_of_ble_eq_true rfl) ?_
      refine x_isub hO dX1_entriesNeverFound_42 ?_
      refine x_iret hO hR dX1_entriesNeverFound_43 rfl ?_
      exact ⟨rfl, rfl⟩
    · exact absurd (Int32.le_refl _) c
  · intro i d hd ih o
    have hi : i < 256 := by omega
    refine x_iload_n hO dX1_entriesNeverFound_4 rfl rfl ?_
    refine x_sipush (v := nI 256) hO dX1_entriesNeverFound_5 rfl ?_
    refine x_icmp_ge (tgt := 34) hO dX1_entriesNeverFound_8 (by decide) (fun c => ?_) (fun c => ?_)
    · exact absurd c (nI_ge hi (by decide))
    · refine x_aload_n hO dX1_entriesNeverFound_11 rfl rfl ?_
      refine x_iload_n hO dX1_entriesNeverFound_12 rfl rfl ?_
      refine x_callV1 hO (k_slotFoundBy U M (nI i)) dX1_entriesNeverFound_13 lkX1_111 fX1_slotFoundBy vX1_slotFoundBy (by decide) rfl rfl rfl rfl rfl (by decide) (Nat.le_of_ble_eq_true rfl) ?_
      refine x_istore_n (n := 4) hO dX1_entriesNeverFound_16 rfl rfl (by decide) hN ?_
      refine x_iload_n hO dX1_entriesNeverFound_17 rfl rfl ?_
      refine x_iconst (v := (-1 : Int32)) hO dX1_entriesNeverFound_18 rfl ?_
      have ih := ih (some (.inl (aN (aFd (cA M 16) (nI i)))))
      simp only [aFB] at ih
      refine x_icmp_eq (tgt := 28) hO dX1_entriesNeverFound_19 (by decide) (fun c2 => ?_) (fun c2 => ?_)
      · refine x_iinc hO dX1_entriesNeverFound_28 rfl (by first | exact xinc_n _ | rfl) rfl hN ?_
        refine x_goto (tgt := 4) hO dX1_entriesNeverFound_31 (by decide) ?_
        rw [if_neg (fun q => by rw [aN, if_pos q] at c2; exact absurd (by rw [c2]; decide) (nI_pos (n := aFd (cA M 16) (nI i)) (by omega)))] at ih
        exact ih
      · have q : aFd (cA M 16) (nI i) < 32 := by
          rcases Nat.lt_or_ge (aFd (cA M 16) (nI i)) 32 with q | q
          · exact q
          · exact absurd (by rw [aN, if_neg (by omega)]) c2
        have e : aN (aFd (cA M 16) (nI i)) = nI (aFd (cA M 16) (nI i)) := by rw [aN, if_pos q]
        rw [if_pos q] at ih
        rw [e] at ih ⊢
        refine x_iload_n hO dX1_entriesNeverFound_22 rfl rfl ?_
        refine x_iconst (v := nI 1) hO dX1_entriesNeverFound_23 rfl ?_
        refine x_iload_n hO dX1_entriesNeverFound_24 rfl rfl ?_
        refine x_ishl hO dX1_entriesNeverFound_25 ?_
        refine x_ior hO dX1_entriesNeverFound_26 ?_
        refine x_istore_n (n := 4) hO dX1_entriesNeverFound_27 rfl rfl (by decide) hN ?_
        refine x_iinc hO dX1_entriesNeverFound_28 rfl (by first | exact xinc_n _ | rfl) rfl hN ?_
        refine x_goto (tgt := 4) hO dX1_entriesNeverFound_31 (by decide) ?_
        exact ih
/-- an entry of the mask m and the value v is hidden by the one in the slot s -/
def pHid (A : aR) (m v : Int32) (s : Nat) : Bool := aoc A s && ((A s 2 &&& m) == A s 2 && (v &&& A s 2) == A s 3)
def aHid (A : aR) (j : Nat) : Int32 := if nF (pHid A (A j 2) (A j 3)) 0 j < j then nI (nF (pHid A (A j 2) (A j 3)) 0 j) else -1
theorem k_slotHiding (U : xP) (M : xM) {j : Nat} (hj : j < 32) : xMetI U mX1_slotHiding [.inr 16, .inl (nI j)] M (fun r M' => r = (if aoc (cA M 16) j then aHid (cA M 16) j else -1) ∧ M' = M) := by
  refine xMetI.of (ty := .int) (L := [some (.inr 16), some (.inl (nI j)), none, none, none]) fX1_slotHiding rfl rfl (Nat.le_of_ble_eq_true rfl) (fun G hN hO hR => ?_)
  have hN : G.2.2.2.2.2.2.2.2.2.2.1 = 5 := hN
  have hO : xOK U G RX1 cX1_slotHiding 1 := hO
  refine x_aload_n hO dX1_slotHiding_0 rfl rfl ?_
  refine x_iload_n hO dX1_slotHiding_1 rfl rfl ?_
  refine x_callV1 hO (k_holds M hj) dX1_slotHiding_2 lkX1_53 fX1_holdsEntry vX1_holdsEntry (by decide) rfl rfl rfl rfl rfl (by decide) (Nat.le_of_ble_eq_true rfl) ?_
  refine x_if_ne (tgt := 10) hO dX1_slotHiding_5 (by decide) (fun c => ?_) (fun c => ?_)
  · have h0 := bI_1 c
    have e2 : M 19 j = cA M 16 j 2 := cA_in (w := 2) h0 (by decide)
    have e3 : M 20 j = cA M 16 j 3 := cA_in (w := 3) h0 (by decide)
    rw [h0] at hR
    simp only [if_true, aHid] at hR
    refine x_aload_n hO dX1_slotHiding_10 rfl rfl ?_
    refine x_getR (T := TX1) (j := 2) hO dX1_slotHiding_11 flX1_18 (by decide) rfl rfl (by decide) rfl rfl ?_
    refine x_iload_n hO dX1_slotHiding_14 rfl rfl ?_
    refine x_iald hO (by decide) rfl (by decide) (rfl) (hj) dX1_slotHiding_15 ?_
    refine x_istore_n (n := 5) hO dX1_slotHiding_16 rfl rfl (by decide) hN ?_
    rw [e2]
    refine x_aload_n hO dX1_slotHiding_17 rfl rfl ?_
    refine x_getR (T := TX1) (j := 3) hO dX1_slotHiding_18 flX1_21 (by decide) rfl rfl (by decide) rfl rfl ?_
    refine x_iload_n hO dX1_slotHiding_21 rfl rfl ?_
    refine x_iald hO (by decide) rfl (by decide) (rfl) (hj) dX1_slotHiding_22 ?_
    refine x_istore_n (n := 5) hO dX1_slotHiding_23 rfl rfl (by decide) hN ?_
    refine x_iconst (v := nI 0) hO dX1_slotHiding_24 rfl ?_
    refine x_istore (n := 5) hO dX1_slotHiding_25 rfl (by decide) hN ?_
    rw [e3]
    generalize cA M 16 j 2 = mm at hR ⊢
    generalize cA M 16 j 3 = vv at hR ⊢
    generalize hf : nF (pHid (cA M 16) mm vv) 0 j = f at hR
    refine upd_ind (P := fun i d => nF (pHid (cA M 16) mm vv) i d = f → XW U G 27 [some (.inr 16), some (.inl (nI j)), some (.inl mm), some (.inl vv), some (.inl (nI i))] [] M) j ?_ ?_ j 0 (by omega) hf
    · intro hf
      refine x_iload hO dX1_slotHiding_27 rfl ?_
      refine x_iload_n hO dX1_slotHiding_29 rfl rfl ?_
      refine x_icmp_ge (tgt := 89) hO dX1_slotHiding_30 (by decide) (fun c1 => ?_) (fun c1 => ?_)
      · refine x_iconst (v := (-1 : Int32)) hO dX1_slotHiding_89 rfl ?_
        refine x_iret hO hR dX1_slotHiding_90 rfl ?_
        exact ⟨by rw [← hf]; simp [nF], rfl⟩
      · exact absurd (Int32.le_refl _) c1
    · intro i d hd ih hf
      have hi : i < 32 := by omega
      refine x_iload hO dX1_slotHiding_27 rfl ?_
      refine x_iload_n hO dX1_slotHiding_29 rfl rfl ?_
      refine x_icmp_ge (tgt := 89) hO dX1_slotHiding_30 (by decide) (fun c1 => ?_) (fun c1 => ?_)
      · exact absurd c1 (nI_ge (by omega) (by omega))
      · refine x_aload_n hO dX1_slotHiding_33 rfl rfl ?_
        refine x_iload hO dX1_slotHiding_34 rfl ?_
        refine x_callV1 hO (k_holds M hi) dX1_slotHiding_36 lkX1_53 fX1_holdsEntry vX1_holdsEntry (by decide) rfl rfl rfl rfl rfl (by decide) (Nat.le_of_ble_eq_true rfl) ?_
        refine x_if_eq (tgt := 83) hO dX1_slotHiding_39 (by decide) (fun c2 => ?_) (fun c2 => ?_)
        · refine x_iinc hO dX1_slotHiding_83 rfl (by first | exact xinc_n _ | rfl) rfl hN ?_
          refine x_goto (tgt := 27) hO dX1_slotHiding_86 (by decide) ?_
          exact ih (by rw [← hf, nF_f (by simp [pHid, bI_0 c2])])
        · have e : M 19 i = cA M 16 i 2 := cA_in (w := 2) (bI_1 c2) (by decide)
          have e1 : M 20 i = cA M 16 i 3 := cA_in (w := 3) (bI_1 c2) (by decide)
          refine x_aload_n hO dX1_slotHiding_42 rfl rfl ?_
          refine x_getR (T := TX1) (j := 2) hO dX1_slotHiding_43 flX1_18 (by decide) rfl rfl (by decide) rfl rfl ?_
          refine x_iload hO dX1_slotHiding_46 rfl ?_
          refine x_iald hO (by decide) rfl (by decide) (rfl) (hi) dX1_slotHiding_48 ?_
          refine x_iload_n hO dX1_slotHiding_49 rfl rfl ?_
          refine x_iand hO dX1_slotHiding_50 ?_
          refine x_aload_n hO dX1_slotHiding_51 rfl rfl ?_
          refine x_getR (T := TX1) (j := 2) hO dX1_slotHiding_52 flX1_18 (by decide) rfl rfl (by decide) rfl rfl ?_
          refine x_iload hO dX1_slotHiding_55 rfl ?_
          refine x_iald hO (by decide) rfl (by decide) (rfl) (hi) dX1_slotHiding_57 ?_
          rw [e]
          refine x_icmp_ne (tgt := 83) hO dX1_slotHiding_58 (by decide) (fun c3 => ?_) (fun c3 => ?_)
          · refine x_iinc hO dX1_slotHiding_83 rfl (by first | exact xinc_n _ | rfl) rfl hN ?_
            refine x_goto (tgt := 27) hO dX1_slotHiding_86 (by decide) ?_
            exact ih (by rw [← hf, nF_f (by simp [pHid, c3])])
          · refine x_iload_n hO dX1_slotHiding_61 rfl rfl ?_
            refine x_aload_n hO dX1_slotHiding_62 rfl rfl ?_
            refine x_getR (T := TX1) (j := 2) hO dX1_slotHiding_63 flX1_18 (by decide) rfl rfl (by decide) rfl rfl ?_
            refine x_iload hO dX1_slotHiding_66 rfl ?_
            refine x_iald hO (by decide) rfl (by decide) (rfl) (hi) dX1_slotHiding_68 ?_
            refine x_iand hO dX1_slotHiding_69 ?_
            refine x_aload_n hO dX1_slotHiding_70 rfl rfl ?_
            refine x_getR (T := TX1) (j := 3) hO dX1_slotHiding_71 flX1_21 (by decide) rfl rfl (by decide) rfl rfl ?_
            refine x_iload hO dX1_slotHiding_74 rfl ?_
            refine x_iald hO (by decide) rfl (by decide) (rfl) (hi) dX1_slotHiding_76 ?_
            rw [e, e1]
            refine x_icmp_ne (tgt := 83) hO dX1_slotHiding_77 (by decide) (fun c4 => ?_) (fun c4 => ?_)
            · refine x_iinc hO dX1_slotHiding_83 rfl (by first | exact xinc_n _ | rfl) rfl hN ?_
              refine x_goto (tgt := 27) hO dX1_slotHiding_86 (by decide) ?_
              exact ih (by rw [← hf, nF_f (by simp [pHid, c4])])
            · refine x_iload hO dX1_slotHiding_80 rfl ?_
              refine x_iret hO hR dX1_slotHiding_82 rfl ?_
              have hij : i < j := by omega
              exact ⟨by rw [← hf, nF_t (by simp [pHid, bI_1 c2, c3, c4])]; simp [hij], rfl⟩
  · refine x_iconst (v := (-1 : Int32)) hO dX1_slotHiding_8 rfl ?_
    refine x_iret hO hR dX1_slotHiding_9 rfl ?_
    exact ⟨by rw [bI_0 c]; rfl, rfl⟩
/-! ===== banks ===== -/
def aFE (A : aR) (b : Nat) : Nat := nF (fun i => aoc A (b * 8 + i)) 0 8
theorem k_firstEntryOfBank (U : xP) (M : xM) {b : Nat} (hb : b < 4) : xMetI U mX1_firstEntryOfBank [.inr 16, .inl (nI b)] M (fun r M' => r = (if aFE (cA M 16) b < 8 then nI (b * 8 + aFE (cA M 16) b) else -1) ∧ M' = M) := by
  refine xMetI.of (ty := .int) (L := [some (.inr 16), some (.inl (nI b)), none]) fX1_firstEntryOfBank rfl rfl (Nat.le_of_ble_eq_true rfl) (fun G hN hO hR => ?_)
  have hN : G.2.2.2.2.2.2.2.2.2.2.1 = 3 := hN
  have hO : xOK U G RX1 cX1_firstEntryOfBank 1 := hO
  generalize hf : aFE (cA M 16) b = f at hR
  refine x_iconst (v := nI 0) hO dX1_firstEntryOfBank_0 rfl ?_
  refine x_istore_n (n := 3) hO dX1_firstEntryOfBank_1 rfl rfl (by decide) hN ?_
  refine upd_ind (P := fun i d => nF (fun i => aoc (cA M 16) (b * 8 + i)) i d = f → XW U G 2 [some (.inr 16), some (.inl (nI b)), some (.inl (nI i))] [] M) 8 ?_ ?_ 8 0 rfl hf
  · intro hf
    refine x_iload_n hO dX1_firstEntryOfBank_2 rfl rfl ?_
    refine x_bipush (v := nI 8) hO dX1_firstEntryOfBank_3 rfl ?_
    refine x_icmp_ge (tgt := 34) hO dX1_firstEntryOfBank_5 (by decide) (fun c => ?_) (fun c => ?_)
    · refine x_iconst (v := (-1 : Int32)) hO dX1_firstEntryOfBank_34 rfl ?_
      refine x_iret hO hR dX1_firstEntryOfBank_35 rfl ?_
      exact ⟨by rw [← hf]; rfl, rfl⟩
    · exact absurd (Int32.le_refl _) c
  · intro i d hd ih hf
    have hi : i < 8 := by omega
    refine x_iload_n hO dX1_firstEntryOfBank_2 rfl rfl ?_
    refine x_bipush (v := nI 8) hO dX1_firstEntryOfBank_3 rfl ?_
    refine x_icmp_ge (tgt := 34) hO dX1_firstEntryOfBank_5 (by decide) (fun c => ?_) (fun c => ?_)
    · exact absurd c (nI_ge hi (by decide))
    · refine x_aload_n hO dX1_firstEntryOfBank_8 rfl rfl ?_
      refine x_iload_n hO dX1_firstEntryOfBank_9 rfl rfl ?_
      refine x_bipush (v := nI 8) hO dX1_firstEntryOfBank_10 rfl ?_
      refine x_imul hO dX1_firstEntryOfBank_12 ?_
      refine x_iload_n hO dX1_firstEntryOfBank_13 rfl rfl ?_
      refine x_iadd hO dX1_firstEntryOfBank_14 ?_
      rw [pk_mul, nI_add]
      refine x_callV1 hO (k_holds M (i := b * 8 + i) (by omega)) dX1_firstEntryOfBank_15 lkX1_53 fX1_holdsEntry vX1_holdsEntry (by decide) rfl rfl rfl rfl rfl (by decide) (Nat.le_of_ble_eq_true rfl) ?_
      refine x_if_eq (tgt := 28) hO dX1_firstEntryOfBank_18 (by decide) (fun c2 => ?_) (fun c2 => ?_)
      · refine x_iinc hO dX1_firstEntryOfBank_28 rfl (by first | exact xinc_n _ | rfl) rfl hN ?_
        refine x_goto (tgt := 2) hO dX1_firstEntryOfBank_31 (by decide) ?_
        exact ih (by rw [← hf, nF_f (P := fun i => aoc (cA M 16) (b * 8 + i)) (bI_0 c2)])
      · refine x_iload_n hO dX1_firstEntryOfBank_21 rfl rfl ?_
        refine x_bipush (v := nI 8) hO dX1_firstEntryOfBank_22 rfl ?_
        refine x_imul hO dX1_firstEntryOfBank_24 ?_
        refine x_iload_n hO dX1_firstEntryOfBank_25 rfl rfl ?_
        refine x_iadd hO dX1_firstEntryOfBank_26 ?_
        rw [pk_mul, nI_add]
        refine x_iret hO hR dX1_firstEntryOfBank_27 rfl ?_
        exact ⟨by rw [← hf, nF_t (P := fun i => aoc (cA M 16) (b * 8 + i)) (bI_1 c2)]; simp [hi], rfl⟩
/-- the bits in which all entries of the bank b's first i slots agree with the slot f -/
def aCM (A : aR) (b f : Nat) : Nat → Int32
  | 0 => A f 2
  | i + 1 => if aoc A (b * 8 + i) then aCM A b f i &&& (A (b * 8 + i) 2 &&& ((A (b * 8 + i) 3 ^^^ A f 3) ^^^ (-1))) else aCM A b f i
def aFM (A : aR) (b : Nat) : Int32 := if aFE A b < 8 then aCM A b (b * 8 + aFE A b) 8 else 0
def aFV (A : aR) (b : Nat) : Int32 := if aFE A b < 8 then A (b * 8 + aFE A b) 3 &&& aFM A b else 0
theorem aFE_oc {A : aR} {b : Nat} (h : aFE A b < 8) : aoc A (b * 8 + aFE A b) = true := nF_yes (P := fun i => aoc A (b * 8 + i)) 8 0 (by show aFE A b < 0 + 8; omega)
theorem k_commonMask (U : xP) (M : xM) {b : Nat} (hb : b < 4) : xMetI U mX1_commonMask [.inr 16, .inl (nI b)] M (fun r M' => r = aFM (cA M 16) b ∧ M' = M) := by
  refine xMetI.of (ty := .int) (L := [some (.inr 16), some (.inl (nI b)), none, none, none, none]) fX1_commonMask rfl rfl (Nat.le_of_ble_eq_true rfl) (fun G hN hO hR => ?_)
  have hN : G.2.2.2.2.2.2.2.2.2.2.1 = 6 := hN
  have hO : xOK U G RX1 cX1_commonMask 2 := hO
  unfold aFM at hR
  refine x_aload_n hO dX1_commonMask_0 rfl rfl ?_
  refine x_iload_n hO dX1_commonMask_1 rfl rfl ?_
  refine x_callV1 hO (k_firstEntryOfBank U M hb) dX1_commonMask_2 lkX1_128 fX1_firstEntryOfBank vX1_firstEntryOfBank (by decide) rfl rfl rfl rfl rfl (by decide) (Nat.le_of_ble_eq_true rfl) ?_
  rcases Nat.lt_or_ge (aFE (cA M 16) b) 8 with hq | hq
  · have h0 := aFE_oc hq
    have hf32 : b * 8 + aFE (cA M 16) b < 32 := by omega
    rw [if_pos hq] at hR ⊢
    generalize hfe : b * 8 + aFE (cA M 16) b = f at *
    have e2 : M 19 f = cA M 16 f 2 := cA_in (w := 2) h0 (by decide)
    have e3 : M 20 f = cA M 16 f 3 := cA_in (w := 3) h0 (by decide)
    refine x_istore_n (n := 6) hO dX1_commonMask_5 rfl rfl (by decide) hN ?_
    refine x_iload_n hO dX1_commonMask_6 rfl rfl ?_
    refine x_callSN1 hO (k_isSlot U M (nI f)) dX1_commonMask_7 lkX1_49 fX3_isSlot sX3_isSlot rfl rfl (by decide) (Nat.le_of_ble_eq_true rfl) ?_
    rw [ixB_n hf32 (by decide)]
    refine x_if_ne (tgt := 15) hO dX1_commonMask_10 (by decide) (fun c => ?_) (fun c => ?_)
    · refine x_aload_n hO dX1_commonMask_15 rfl rfl ?_
      refine x_getR (T := TX1) (j := 2) hO dX1_commonMask_16 flX1_18 (by decide) rfl rfl (by decide) rfl rfl ?_
      refine x_iload_n hO dX1_commonMask_19 rfl rfl ?_
      refine x_iald hO (by decide) rfl (by decide) (rfl) (hf32) dX1_commonMask_20 ?_
      refine x_istore_n (n := 6) hO dX1_commonMask_21 rfl rfl (by decide) hN ?_
      refine x_iconst (v := nI 0) hO dX1_commonMask_22 rfl ?_
      refine x_istore (n := 6) hO dX1_commonMask_23 rfl (by decide) hN ?_
      rw [e2]
      refine upd_ind (P := fun i _ => ∀ o, XW U G 25 [some (.inr 16), some (.inl (nI b)), some (.inl (nI f)), some (.inl (aCM (cA M 16) b f i)), some (.inl (nI i)), o] [] M) 8 ?_ ?_ 8 0 rfl _
      · intro o
        refine x_iload hO dX1_commonMask_25 rfl ?_
        refine x_bipush (v := nI 8) hO dX1_commonMask_27 rfl ?_
        refine x_icmp_ge (tgt := 83) hO dX1_commonMask_29 (by decide) (fun c1 => ?_) (fun c1 => ?_)
        · refine x_iload_n hO dX1_commonMask_83 rfl rfl ?_
          refine x_iret hO hR dX1_commonMask_84 rfl ?_
          exact ⟨rfl, rfl⟩
        · exact absurd (Int32.le_refl _) c1
      · intro i d hd ih o
        have hi : i < 8 := by omega
        have hi32 : b * 8 + i < 32 := by omega
        refine x_iload hO dX1_commonMask_25 rfl ?_
        refine x_bipush (v := nI 8) hO dX1_commonMask_27 rfl ?_
        refine x_icmp_ge (tgt := 83) hO dX1_commonMask_29 (by decide) (fun c1 => ?_) (fun c1 => ?_)
        · exact absurd c1 (nI_ge hi (by decide))
        · refine x_iload_n hO dX1_commonMask_32 rfl rfl ?_
          refine x_bipush (v := nI 8) hO dX1_commonMask_33 rfl ?_
          refine x_imul hO dX1_commonMask_35 ?_
          refine x_iload hO dX1_commonMask_36 rfl ?_
          refine x_iadd hO dX1_commonMask_38 ?_
          rw [pk_mul, nI_add]
          refine x_istore (n := 6) hO dX1_commonMask_39 rfl (by decide) hN ?_
          refine x_aload_n hO dX1_commonMask_41 rfl rfl ?_
          refine x_iload hO dX1_commonMask_42 rfl ?_
          refine x_callV1 hO (k_holds M hi32) dX1_commonMask_44 lkX1_53 fX1_holdsEntry vX1_holdsEntry (by decide) rfl rfl rfl rfl rfl (by decide) (Nat.le_of_ble_eq_true rfl) ?_
          have ih := ih (some (.inl (nI (b * 8 + i))))
          simp only [aCM] at ih
          refine x_if_eq (tgt := 77) hO dX1_commonMask_47 (by decide) (fun c2 => ?_) (fun c2 => ?_)
          · rw [bI_0 c2] at ih
            refine x_iinc hO dX1_commonMask_77 rfl (by first | exact xinc_n _ | rfl) rfl hN ?_
            refine x_goto (tgt := 25) hO dX1_commonMask_80 (by decide) ?_
            exact ih
          · have e : M 19 (b * 8 + i) = cA M 16 (b * 8 + i) 2 := cA_in (w := 2) (bI_1 c2) (by decide)
            have e1 : M 20 (b * 8 + i) = cA M 16 (b * 8 + i) 3 := cA_in (w := 3) (bI_1 c2) (by decide)
            rw [bI_1 c2] at ih
            refine x_iload_n hO dX1_commonMask_50 rfl rfl ?_
            refine x_aload_n hO dX1_commonMask_51 rfl rfl ?_
            refine x_getR (T := TX1) (j := 2) hO dX1_commonMask_52 flX1_18 (by decide) rfl rfl (by decide) rfl rfl ?_
            refine x_iload hO dX1_commonMask_55 rfl ?_
            refine x_iald hO (by decide) rfl (by decide) (rfl) (hi32) dX1_commonMask_57 ?_
            refine x_aload_n hO dX1_commonMask_58 rfl rfl ?_
            refine x_getR (T := TX1) (j := 3) hO dX1_commonMask_59 flX1_21 (by decide) rfl rfl (by decide) rfl rfl ?_
            refine x_iload hO dX1_commonMask_62 rfl ?_
            refine x_iald hO (by decide) rfl (by decide) (rfl) (hi32) dX1_commonMask_64 ?_
            refine x_aload_n hO dX1_commonMask_65 rfl rfl ?_
            refine x_getR (T := TX1) (j := 3) hO dX1_commonMask_66 flX1_21 (by decide) rfl rfl (by decide) rfl rfl ?_
            refine x_iload_n hO dX1_commonMask_69 rfl rfl ?_
            refine x_iald hO (by decide) rfl (by decide) (rfl) (hf32) dX1_commonMask_70 ?_
            refine x_ixor hO dX1_commonMask_71 ?_
            refine x_iconst (v := (-1 : Int32)) hO dX1_commonMask_72 rfl ?_
            refine x_ixor hO dX1_commonMask_73 ?_
            refine x_iand hO dX1_commonMask_74 ?_
            refine x_iand hO dX1_commonMask_75 ?_
            rw [e, e1, e3]
            refine x_istore_n (n := 6) hO dX1_commonMask_76 rfl rfl (by decide) hN ?_
            refine x_iinc hO dX1_commonMask_77 rfl (by first | exact xinc_n _ | rfl) rfl hN ?_
            refine x_goto (tgt := 25) hO dX1_commonMask_80 (by decide) ?_
            exact ih
    · exact absurd c (by decide)
  · rw [if_neg (by omega)] at hR ⊢
    refine x_istore_n (n := 6) hO dX1_commonMask_5 rfl rfl (by decide) hN ?_
    refine x_iload_n hO dX1_commonMask_6 rfl rfl ?_
    refine x_callSN1 hO (k_isSlot U M (-1)) dX1_commonMask_7 lkX1_49 fX3_isSlot sX3_isSlot rfl rfl (by decide) (Nat.le_of_ble_eq_true rfl) ?_
    refine x_if_ne (tgt := 15) hO dX1_commonMask_10 (by decide) (fun c => ?_) (fun c => ?_)
    · exact absurd rfl c
    · refine x_iconst (v := nI 0) hO dX1_commonMask_13 rfl ?_
      refine x_iret hO hR dX1_commonMask_14 rfl ?_
      exact ⟨rfl, rfl⟩
theorem k_commonValue (U : xP) (M : xM) {b : Nat} (hb : b < 4) : xMetI U mX1_commonValue [.inr 16, .inl (nI b)] M (fun r M' => r = aFV (cA M 16) b ∧ M' = M) := by
  refine xMetI.of (ty := .int) (L := [some (.inr 16), some (.inl (nI b)), none]) fX1_commonValue rfl rfl (Nat.le_of_ble_eq_true rfl) (fun G hN hO hR => ?_)
  have hN : G.2.2.2.2.2.2.2.2.2.2.1 = 3 := hN
  have hO : xOK U G RX1 cX1_commonValue 3 := hO
  unfold aFV at hR
  refine x_aload_n hO dX1_commonValue_0 rfl rfl ?_
  refine x_iload_n hO dX1_commonValue_1 rfl rfl ?_
  refine x_callV1 hO (k_firstEntryOfBank U M hb) dX1_commonValue_2 lkX1_128 fX1_firstEntryOfBank vX1_firstEntryOfBank (by decide) rfl rfl rfl rfl rfl (by decide) (Nat.le_of_ble_eq_true rfl) ?_
  rcases Nat.lt_or_ge (aFE (cA M 16) b) 8 with hq | hq
  · have h0 := aFE_oc hq
    have hf32 : b * 8 + aFE (cA M 16) b < 32 := by omega
    rw [if_pos hq] at hR ⊢
    have e3 : M 20 (b * 8 + aFE (cA M 16) b) = cA M 16 (b * 8 + aFE (cA M 16) b) 3 := cA_in (w := 3) h0 (by decide)
    rw [← e3] at hR
    refine x_istore_n (n := 3) hO dX1_commonValue_5 rfl rfl (by decide) hN ?_
    refine x_iload_n hO dX1_commonValue_6 rfl rfl ?_
    refine x_callSN1 hO (k_isSlot U M (nI (b * 8 + aFE (cA M 16) b))) dX1_commonValue_7 lkX1_49 fX3_isSlot sX3_isSlot rfl rfl (by decide) (Nat.le_of_ble_eq_true rfl) ?_
    rw [ixB_n hf32 (by decide)]
    refine x_if_eq (tgt := 28) hO dX1_commonValue_10 (by decide) (fun c => ?_) (fun c => ?_)
    · exact absurd c (by decide)
    · refine x_aload_n hO dX1_commonValue_13 rfl rfl ?_
      refine x_getR (T := TX1) (j := 3) hO dX1_commonValue_14 flX1_21 (by decide) rfl rfl (by decide) rfl rfl ?_
      refine x_iload_n hO dX1_commonValue_17 rfl rfl ?_
      refine x_iald hO (by decide) rfl (by decide) (rfl) (hf32) dX1_commonValue_18 ?_
      refine x_aload_n hO dX1_commonValue_19 rfl rfl ?_
      refine x_iload_n hO dX1_commonValue_20 rfl rfl ?_
      refine x_callV1 hO (k_commonMask U M hb) dX1_commonValue_21 lkX1_122 fX1_commonMask vX1_commonMask (by decide) rfl rfl rfl rfl rfl (by decide) (Nat.le_of_ble_eq_true rfl) ?_
      refine x_iand hO dX1_commonValue_24 ?_
      refine x_goto (tgt := 29) hO dX1_commonValue_25 (by decide) ?_
      refine x_iret hO hR dX1_commonValue_29 rfl ?_
      exact ⟨rfl, rfl⟩
  · rw [if_neg (by omega)] at hR ⊢
    refine x_istore_n (n := 3) hO dX1_commonValue_5 rfl rfl (by decide) hN ?_
    refine x_iload_n hO dX1_commonValue_6 rfl rfl ?_
    refine x_callSN1 hO (k_isSlot U M (-1)) dX1_commonValue_7 lkX1_49 fX3_isSlot sX3_isSlot rfl rfl (by decide) (Nat.le_of_ble_eq_true rfl) ?_
    refine x_if_eq (tgt := 28) hO dX1_commonValue_10 (by decide) (fun c => ?_) (fun c => ?_)
    · refine x_iconst (v := nI 0) hO dX1_commonValue_28 rfl ?_
      refine x_iret hO hR dX1_commonValue_29 rfl ?_
      exact ⟨rfl, rfl⟩
    · exact absurd rfl c
def aPw (A : aR) (k : Int32) : Nat → Nat
  | 0 => 0
  | b + 1 => if (k &&& aFM A b) = aFV A b then aPw A k b + aBank A b else aPw A k b
theorem k_powerFor (U : xP) (M : xM) (x : Int32) : xMetI U mX1_powerFor [.inr 16, .inl x] M (fun r M' => r = nI (aPw (cA M 16) x 4) ∧ M' = M) := by
  refine xMetI.of (ty := .int) (L := [some (.inr 16), some (.inl x), none, none]) fX1_powerFor rfl rfl (Nat.le_of_ble_eq_true rfl) (fun G hN hO hR => ?_)
  have hN : G.2.2.2.2.2.2.2.2.2.2.1 = 4 := hN
  have hO : xOK U G RX1 cX1_powerFor 4 := hO
  refine x_iconst (v := nI 0) hO dX1_powerFor_0 rfl ?_
  refine x_istore_n (n := 4) hO dX1_powerFor_1 rfl rfl (by decide) hN ?_
  refine x_iconst (v := nI 0) hO dX1_powerFor_2 rfl ?_
  refine x_istore_n (n := 4) hO dX1_powerFor_3 rfl rfl (by decide) hN ?_
  refine upd_ind (P := fun i _ => XW U G 4 [some (.inr 16), some (.inl x), some (.inl (nI (aPw (cA M 16) x i))), some (.inl (nI i))] [] M) 4 ?_ ?_ 4 0 rfl
  · refine x_iload_n hO dX1_powerFor_4 rfl rfl ?_
    refine x_iconst (v := nI 4) hO dX1_powerFor_5 rfl ?_
    refine x_icmp_ge (tgt := 38) hO dX1_powerFor_6 (by decide) (fun c => ?_) (fun c => ?_)
    · refine x_iload_n hO dX1_powerFor_38 rfl rfl ?_
      refine x_iret hO hR dX1_powerFor_39 rfl ?_
      exact ⟨rfl, rfl⟩
    · exact absurd (Int32.le_refl _) c
  · intro i d hd ih
    have hi : i < 4 := by omega
    refine x_iload_n hO dX1_powerFor_4 rfl rfl ?_
    refine x_iconst (v := nI 4) hO dX1_powerFor_5 rfl ?_
    refine x_icmp_ge (tgt := 38) hO dX1_powerFor_6 (by decide) (fun c => ?_) (fun c => ?_)
    · exact absurd c (nI_ge hi (by decide))
    · refine x_iload_n hO dX1_powerFor_9 rfl rfl ?_
      refine x_aload_n hO dX1_powerFor_10 rfl rfl ?_
      refine x_iload_n hO dX1_powerFor_11 rfl rfl ?_
      refine x_callV1 hO (k_commonMask U M hi) dX1_powerFor_12 lkX1_122 fX1_commonMask vX1_commonMask (by decide) rfl rfl rfl rfl rfl (by decide) (Nat.le_of_ble_eq_true rfl) ?_
      refine x_iand hO dX1_powerFor_15 ?_
      refine x_aload_n hO dX1_powerFor_16 rfl rfl ?_
      refine x_iload_n hO dX1_powerFor_17 rfl rfl ?_
      refine x_callV1 hO (k_commonValue U M hi) dX1_powerFor_18 lkX1_125 fX1_commonValue vX1_commonValue (by decide) rfl rfl rfl rfl rfl (by decide) (Nat.le_of_ble_eq_true rfl) ?_
      simp only [aPw] at ih
      refine x_icmp_ne (tgt := 32) hO dX1_powerFor_21 (by decide) (fun c2 => ?_) (fun c2 => ?_)
      · rw [if_neg c2] at ih
        refine x_iinc hO dX1_powerFor_32 rfl (by first | exact xinc_n _ | rfl) rfl hN ?_
        refine x_goto (tgt := 4) hO dX1_powerFor_35 (by decide) ?_
        exact ih
      · rw [if_pos c2] at ih
        refine x_iload_n hO dX1_powerFor_24 rfl rfl ?_
        refine x_aload_n hO dX1_powerFor_25 rfl rfl ?_
        refine x_iload_n hO dX1_powerFor_26 rfl rfl ?_
        refine x_callV1 hO (k_entriesInBank U M hi) dX1_powerFor_27 lkX1_56 fX1_entriesInBank vX1_entriesInBank (by decide) rfl rfl rfl rfl rfl (by decide) (Nat.le_of_ble_eq_true rfl) ?_
        refine x_iadd hO dX1_powerFor_30 ?_
        rw [nI_add]
        refine x_istore_n (n := 4) hO dX1_powerFor_31 rfl rfl (by decide) hN ?_
        refine x_iinc hO dX1_powerFor_32 rfl (by first | exact xinc_n _ | rfl) rfl hN ?_
        refine x_goto (tgt := 4) hO dX1_powerFor_35 (by decide) ?_
        exact ih
end
section
/-! ===== moves for a rank, places ===== -/
theorem xm_gap : ∀ b, b < 33 → ∀ p, p < 33 → ((nI b - xm p ≤ nI 1) ↔ b ≤ p) := by decide +kernel
theorem xm_mid : ∀ b, b < 33 → ∀ p, p < b → (xm p + nI b) / nI 2 = nI ((p + b - 1) / 2) := by decide +kernel
theorem xm_inc (p : Nat) : xm p + nI 1 = nI p := by
  cases p with
  | zero => rfl
  | succ p => exact nI_add p 1
/-- the least slot behind the ranks up to r; the least slot of a greater one -/
def aP (A : aR) (r : Int32) : Nat := nL (pUp A r) 32
def aB (A : aR) (r : Int32) : Nat := nF (pBy A r) 0 32
theorem aP_le (A : aR) (r : Int32) : aP A r ≤ 32 := nL_le 32
theorem aB_le (A : aR) (r : Int32) : aB A r ≤ 32 := by have := (nF_le (P := pBy A r) 32 0).2; exact this
theorem aMu_le {A : aR} {f : Nat} (h : aMu A f ≠ 33) : f + aMu A f < 32 ∧ aoc A (f + aMu A f) = false ∧ ∀ j, f ≤ j → j < f + aMu A f → aoc A j = true := by
  unfold aMu at h ⊢
  have a := nF_le (P := pFr A) (32 - f) f
  split at h
  · rename_i q
    rw [if_pos q]
    have y := nF_yes (P := pFr A) (32 - f) f (by omega)
    have e : f + (nF (pFr A) f (32 - f) - f) = nF (pFr A) f (32 - f) := by omega
    rw [e]
    refine ⟨q, by simpa [pFr] using y, fun j h1 h2 => by simpa [pFr] using nF_no (P := pFr A) (32 - f) f j h1 h2⟩
  · exact absurd rfl h
theorem aMu_33 (A : aR) (f : Nat) : aMu A f ≤ 33 := by
  unfold aMu
  have a := nF_le (P := pFr A) (32 - f) f
  split <;> omega
theorem aMd_33 (A : aR) {k : Nat} (hk : k ≤ 32) : aMd A k ≤ 33 := by
  unfold aMd
  split <;> omega
theorem aMd_le {A : aR} {k : Nat} (hk : k ≤ 32) (h : aMd A k ≠ 33) : aMd A k < k ∧ aoc A (k - 1 - aMd A k) = false ∧ ∀ j, k - 1 - aMd A k < j → j < k → aoc A j = true := by
  unfold aMd at h ⊢
  have a := nL_le (P := pFr A) k
  split at h
  · exact absurd rfl h
  · rename_i q
    rw [if_neg q]
    obtain ⟨j0, e⟩ : ∃ j0, nL (pFr A) k = j0 + 1 := ⟨nL (pFr A) k - 1, by omega⟩
    have y := nL_yes e
    rw [e] at a ⊢
    have e2 : k - 1 - (k - (j0 + 1)) = j0 := by omega
    rw [e2]
    refine ⟨by omega, by simpa [pFr] using y, fun j h1 h2 => by simpa [pFr] using nL_no (P := pFr A) (n := k) (by rw [e]; omega) h2⟩
/-- how many entries are moved for one of the rank r -/
def oM (A : aR) (r : Int32) : Nat := if aP A r < aB A r then 0 else min (aMu A (aB A r)) (aMd A (aP A r))
theorem k_movesFor (U : xP) (M : xM) (x : Int32) : xMetI U mX1_movesFor [.inr 16, .inl x] M (fun r M' => r = nI (oM (cA M 16) x) ∧ M' = M) := by
  refine xMetI.of (ty := .int) (L := [some (.inr 16), some (.inl x), none, none]) fX1_movesFor rfl rfl (Nat.le_of_ble_eq_true rfl) (fun G hN hO hR => ?_)
  have hN : G.2.2.2.2.2.2.2.2.2.2.1 = 4 := hN
  have hO : xOK U G RX1 cX1_movesFor 2 := hO
  unfold oM at hR
  refine x_aload_n hO dX1_movesFor_0 rfl rfl ?_
  refine x_iload_n hO dX1_movesFor_1 rfl rfl ?_
  refine x_callV1 hO (k_lastSlotUpTo U M x) dX1_movesFor_2 lkX1_75 fX1_lastSlotUpTo vX1_lastSlotUpTo (by decide) rfl rfl rfl rfl rfl (by decide) (Nat.le_of_ble_eq_true rfl) ?_
  refine x_istore_n (n := 4) hO dX1_movesFor_5 rfl rfl (by decide) hN ?_
  refine x_aload_n hO dX1_movesFor_6 rfl rfl ?_
  refine x_iload_n hO dX1_movesFor_7 rfl rfl ?_
  refine x_callV1 hO (k_firstSlotBeyond U M x) dX1_movesFor_8 lkX1_78 fX1_firstSlotBeyond vX1_firstSlotBeyond (by decide) rfl rfl rfl rfl rfl (by decide) (Nat.le_of_ble_eq_true rfl) ?_
  refine x_istore_n (n := 4) hO dX1_movesFor_11 rfl rfl (by decide) hN ?_
  refine x_iload_n hO dX1_movesFor_12 rfl rfl ?_
  refine x_iload_n hO dX1_movesFor_13 rfl rfl ?_
  refine x_isub hO dX1_movesFor_14 ?_
  refine x_iconst (v := nI 1) hO dX1_movesFor_15 rfl ?_
  have h1 := aP_le (cA M 16) x
  have h2 := aB_le (cA M 16) x
  change XW U G _ _ [.inl (nI 1), .inl (nI (aB (cA M 16) x) - xm (aP (cA M 16) x))] M
  refine x_icmp_le (tgt := 21) hO dX1_movesFor_16 (by decide) (fun c => ?_) (fun c => ?_)
  · have q : aB (cA M 16) x ≤ aP (cA M 16) x := (xm_gap _ (by omega) _ (by omega)).mp c
    rw [if_neg (by omega)] at hR
    refine x_aload_n hO dX1_movesFor_21 rfl rfl ?_
    refine x_iload_n hO dX1_movesFor_22 rfl rfl ?_
    refine x_callV1 hO (k_movesUpFrom U M h2) dX1_movesFor_23 lkX1_84 fX1_movesUpFrom vX1_movesUpFrom (by decide) rfl rfl rfl rfl rfl (by decide) (Nat.le_of_ble_eq_true rfl) ?_
    refine x_aload_n hO dX1_movesFor_26 rfl rfl ?_
    refine x_iload_n hO dX1_movesFor_27 rfl rfl ?_
    refine x_callV1 hO (k_movesDownFrom U M h1) dX1_movesFor_28 lkX1_87 fX1_movesDownFrom vX1_movesDownFrom (by decide) rfl rfl rfl rfl rfl (by decide) (Nat.le_of_ble_eq_true rfl) ?_
    refine x_callS1 hO (k_min U M _ _ (by have := aMu_33 (cA M 16) (aB (cA M 16) x); omega) (by have := aMd_33 (cA M 16) h1; omega)) dX1_movesFor_31 lkX1_97 fJ9_min_7cf53 sJ9_min_7cf53 rfl rfl (by decide) (Nat.le_of_ble_eq_true rfl) ?_
    refine x_iret hO hR dX1_movesFor_34 rfl ?_
    exact ⟨rfl, rfl⟩
  · have q : aP (cA M 16) x < aB (cA M 16) x := by
      rcases Nat.lt_or_ge (aP (cA M 16) x) (aB (cA M 16) x) with q | q
      · exact q
      · exact absurd ((xm_gap _ (by omega) _ (by omega)).mpr q) c
    rw [if_pos q] at hR
    refine x_iconst (v := nI 0) hO dX1_movesFor_19 rfl ?_
    refine x_iret hO hR dX1_movesFor_20 rfl ?_
    exact ⟨rfl, rfl⟩
/-- the slot between p - 1 and b by the placing rule P -/
def aPl (P : Int32) (p b : Nat) : Nat := if P = 0 then p else if P = nI 1 then (p + b - 1) / 2 else b - 1
theorem k_placeBetween (U : xP) (M : xM) {p b : Nat} (hb : b ≤ 32) (hp : p < b) : xMetI U mX1_placeBetween [.inr 16, .inl (xm p), .inl (nI b)] M (fun r M' => r = nI (aPl (M 16 7) p b) ∧ M' = M) := by
  refine xMetI.of (ty := .int) (L := [some (.inr 16), some (.inl (xm p)), some (.inl (nI b))]) fX1_placeBetween rfl rfl (Nat.le_of_ble_eq_true rfl) (fun G hN hO hR => ?_)
  have hN : G.2.2.2.2.2.2.2.2.2.2.1 = 3 := hN
  have hO : xOK U G RX1 cX1_placeBetween 0 := hO
  unfold aPl at hR
  refine x_aload_n hO dX1_placeBetween_0 rfl rfl ?_
  refine x_getI (T := TX1) (j := 7) hO dX1_placeBetween_1 flX1_33 (by decide) rfl rfl (by decide) rfl rfl ?_
  refine x_if_ne (tgt := 11) hO dX1_placeBetween_4 (by decide) (fun c => ?_) (fun c => ?_)
  · refine x_aload_n hO dX1_placeBetween_11 rfl rfl ?_
    refine x_getI (T := TX1) (j := 7) hO dX1_placeBetween_12 flX1_33 (by decide) rfl rfl (by decide) rfl rfl ?_
    refine x_iconst (v := nI 1) hO dX1_placeBetween_15 rfl ?_
    rw [if_neg c] at hR
    refine x_icmp_ne (tgt := 27) hO dX1_placeBetween_16 (by decide) (fun c2 => ?_) (fun c2 => ?_)
    · refine x_iload_n hO dX1_placeBetween_27 rfl rfl ?_
      refine x_iconst (v := nI 1) hO dX1_placeBetween_28 rfl ?_
      refine x_isub hO dX1_placeBetween_29 ?_
      rw [if_neg c2] at hR
      rw [pk_sub (by omega)]
      refine x_iret hO hR dX1_placeBetween_30 rfl ?_
      exact ⟨rfl, rfl⟩
    · refine x_iload_n hO dX1_placeBetween_19 rfl rfl ?_
      refine x_iload_n hO dX1_placeBetween_20 rfl rfl ?_
      refine x_iadd hO dX1_placeBetween_21 ?_
      refine x_iconst (v := nI 2) hO dX1_placeBetween_22 rfl ?_
      refine x_idiv hO dX1_placeBetween_23 (by decide) ?_
      refine x_goto (tgt := 30) hO dX1_placeBetween_24 (by decide) ?_
      rw [if_pos c2] at hR
      rw [xm_mid b (by omega) p hp]
      refine x_iret hO hR dX1_placeBetween_30 rfl ?_
      exact ⟨rfl, rfl⟩
  · refine x_iload_n hO dX1_placeBetween_7 rfl rfl ?_
    refine x_iconst (v := nI 1) hO dX1_placeBetween_8 rfl ?_
    refine x_iadd hO dX1_placeBetween_9 ?_
    rw [xm_inc]
    rw [if_pos c] at hR
    refine x_iret hO hR dX1_placeBetween_10 rfl ?_
    exact ⟨rfl, rfl⟩
/-! ===== shares ===== -/
/-- the slot of the entry with the place p, of n shares -/
def aTg (n p : Nat) : Nat := if n = 0 then p else 32 * p / n
theorem aTg_lt {n p : Nat} (hp : p < n ∨ (n = 0 ∧ p < 32)) : aTg n p < 32 := by
  unfold aTg
  split
  · omega
  · rename_i q
    exact (Nat.div_lt_iff_lt_mul (by omega)).mpr (by omega)
theorem k_firstSlotOfShare (U : xP) (M : xM) {p n : Nat} (hp : p ≤ 32) (hn : n ≤ 32) : xMetI U mX1_firstSlotOfShare [.inl (nI p), .inl (nI n)] M (fun r M' => r = nI (aTg n p) ∧ M' = M) := by
  refine xMetI.of (ty := .int) (L := [some (.inl (nI p)), some (.inl (nI n))]) fX1_firstSlotOfShare rfl rfl (Nat.le_of_ble_eq_true rfl) (fun G hN hO hR => ?_)
  have hN : G.2.2.2.2.2.2.2.2.2.2.1 = 2 := hN
  have hO : xOK U G RX1 cX1_firstSlotOfShare 0 := hO
  unfold aTg at hR
  refine x_iload_n hO dX1_firstSlotOfShare_0 rfl rfl ?_
  refine x_if_le (tgt := 13) hO dX1_firstSlotOfShare_1 (by decide) (fun c => ?_) (fun c => ?_)
  · have q : n = 0 := by have := (nI_leI (b := 0) (by omega) (by decide)).mp c; omega
    rw [if_pos q] at hR
    refine x_iload_n hO dX1_firstSlotOfShare_13 rfl rfl ?_
    refine x_iret hO hR dX1_firstSlotOfShare_14 rfl ?_
    exact ⟨rfl, rfl⟩
  · have q : ¬ n = 0 := by rintro rfl; exact c (Int32.le_refl _)
    rw [if_neg q] at hR
    have q0 : ¬ nI n = 0 := fun z => q ((nI_eq (b := 0) (by omega) (by decide)).mp z)
    refine x_bipush (v := nI 32) hO dX1_firstSlotOfShare_4 rfl ?_
    refine x_iload_n hO dX1_firstSlotOfShare_6 rfl rfl ?_
    refine x_imul hO dX1_firstSlotOfShare_7 ?_
    refine x_iload_n hO dX1_firstSlotOfShare_8 rfl rfl ?_
    refine x_idiv hO dX1_firstSlotOfShare_9 (q0) ?_
    rw [pk_mul, pk_div (by omega) (by omega) (by omega)]
    refine x_goto (tgt := 14) hO dX1_firstSlotOfShare_10 (by decide) ?_
    refine x_iret hO hR dX1_firstSlotOfShare_14 rfl ?_
    exact ⟨rfl, rfl⟩
/-- the entry in the slot s would be in another slot, with n shares -/
def pOut (A : aR) (n s : Nat) : Bool := aoc A s && !(s == aTg n (nC (aoc A) s))
theorem k_entriesOutOfShare (U : xP) (M : xM) {n : Nat} (hn : n ≤ 32) : xMetI U mX1_entriesOutOfShare [.inr 16, .inl (nI n)] M (fun r M' => r = nI (nC (pOut (cA M 16) n) 32) ∧ M' = M) := by
  refine xMetI.of (ty := .int) (L := [some (.inr 16), some (.inl (nI n)), none, none, none]) fX1_entriesOutOfShare rfl rfl (Nat.le_of_ble_eq_true rfl) (fun G hN hO hR => ?_)
  have hN : G.2.2.2.2.2.2.2.2.2.2.1 = 5 := hN
  have hO : xOK U G RX1 cX1_entriesOutOfShare 1 := hO
  refine x_iconst (v := nI 0) hO dX1_entriesOutOfShare_0 rfl ?_
  refine x_istore_n (n := 5) hO dX1_entriesOutOfShare_1 rfl rfl (by decide) hN ?_
  refine x_iconst (v := nI 0) hO dX1_entriesOutOfShare_2 rfl ?_
  refine x_istore_n (n := 5) hO dX1_entriesOutOfShare_3 rfl rfl (by decide) hN ?_
  refine x_iconst (v := nI 0) hO dX1_entriesOutOfShare_4 rfl ?_
  refine x_istore (n := 5) hO dX1_entriesOutOfShare_5 rfl (by decide) hN ?_
  refine upd_ind (P := fun i _ => XW U G 7 [some (.inr 16), some (.inl (nI n)), some (.inl (nI (nC (aoc (cA M 16)) i))), some (.inl (nI (nC (pOut (cA M 16) n) i))), some (.inl (nI i))] [] M) 32 ?_ ?_ 32 0 rfl
  · refine x_iload hO dX1_entriesOutOfShare_7 rfl ?_
    refine x_bipush (v := nI 32) hO dX1_entriesOutOfShare_9 rfl ?_
    refine x_icmp_ge (tgt := 45) hO dX1_entriesOutOfShare_11 (by decide) (fun c => ?_) (fun c => ?_)
    · refine x_iload_n hO dX1_entriesOutOfShare_45 rfl rfl ?_
      refine x_iret hO hR dX1_entriesOutOfShare_46 rfl ?_
      exact ⟨rfl, rfl⟩
    · exact absurd (Int32.le_refl _) c
  · intro i d hd ih
    have hi : i < 32 := by omega
    refine x_iload hO dX1_entriesOutOfShare_7 rfl ?_
    refine x_bipush (v := nI 32) hO dX1_entriesOutOfShare_9 rfl ?_
    refine x_icmp_ge (tgt := 45) hO dX1_entriesOutOfShare_11 (by decide) (fun c => ?_) (fun c => ?_)
    · exact absurd c (nI_ge hi (by decide))
    · refine x_aload_n hO dX1_entriesOutOfShare_14 rfl rfl ?_
      refine x_iload hO dX1_entriesOutOfShare_15 rfl ?_
      refine x_callV1 hO (k_holds M hi) dX1_entriesOutOfShare_17 lkX1_53 fX1_holdsEntry vX1_holdsEntry (by decide) rfl rfl rfl rfl rfl (by decide) (Nat.le_of_ble_eq_true rfl) ?_
      refine x_if_eq (tgt := 39) hO dX1_entriesOutOfShare_20 (by decide) (fun c2 => ?_) (fun c2 => ?_)
      · refine x_iinc hO dX1_entriesOutOfShare_39 rfl (by first | exact xinc_n _ | rfl) rfl hN ?_
        refine x_goto (tgt := 7) hO dX1_entriesOutOfShare_42 (by decide) ?_
        rw [nC_f (bI_0 c2), nC_f (P := pOut (cA M 16) n) (by simp [pOut, bI_0 c2])] at ih
        exact ih
      · have hc := nC_le (aoc (cA M 16)) i
        have ht : aTg n (nC (aoc (cA M 16)) i) < 2 ^ 31 := by
          unfold aTg
          split
          · omega
          · have := Nat.div_le_self (32 * nC (aoc (cA M 16)) i) n
            omega
        rw [nC_t (bI_1 c2)] at ih
        refine x_iload hO dX1_entriesOutOfShare_23 rfl ?_
        refine x_iload_n hO dX1_entriesOutOfShare_25 rfl rfl ?_
        refine x_iload_n hO dX1_entriesOutOfShare_26 rfl rfl ?_
        refine x_callS1 hO (k_firstSlotOfShare U M (by omega) hn) dX1_entriesOutOfShare_27 lkX1_105 fX1_firstSlotOfShare sX1_firstSlotOfShare rfl rfl (by decide) (Nat.le_of_ble_eq_true rfl) ?_
        refine x_icmp_eq (tgt := 36) hO dX1_entriesOutOfShare_30 (by decide) (fun c3 => ?_) (fun c3 => ?_)
        · rw [nC_f (P := pOut (cA M 16) n) (by unfold pOut; rw [bI_1 c2, beq_iff_eq.mpr ((nI_eq (by omega) ht).mp c3)]; rfl)] at ih
          refine x_iinc hO dX1_entriesOutOfShare_36 rfl (by first | exact xinc_n _ | rfl) rfl hN ?_
          refine x_iinc hO dX1_entriesOutOfShare_39 rfl (by first | exact xinc_n _ | rfl) rfl hN ?_
          refine x_goto (tgt := 7) hO dX1_entriesOutOfShare_42 (by decide) ?_
          exact ih
        · have q : ¬ i = aTg n (nC (aoc (cA M 16)) i) := fun q => c3 ((nI_eq (by omega) ht).mpr q)
          rw [nC_t (P := pOut (cA M 16) n) (by simp [pOut, bI_1 c2, q])] at ih
          refine x_iinc hO dX1_entriesOutOfShare_33 rfl (by first | exact xinc_n _ | rfl) rfl hN ?_
          refine x_iinc hO dX1_entriesOutOfShare_36 rfl (by first | exact xinc_n _ | rfl) rfl hN ?_
          refine x_iinc hO dX1_entriesOutOfShare_39 rfl (by first | exact xinc_n _ | rfl) rfl hN ?_
          refine x_goto (tgt := 7) hO dX1_entriesOutOfShare_42 (by decide) ?_
          exact ih
end
section
/-! ===== what a memory's rows are behind a change ===== -/
theorem xset_at (M : xM) (k j : Nat) (x : Int32) (a b : Nat) : xset M k j x a b = if a = k then (if b = j then x else M a b) else M a b := by
  unfold xset xup upd
  split
  · rename_i h; subst h; rfl
  · rfl
theorem all7 {P : Nat → Prop} (h0 : P 0) (h1 : P 1) (h2 : P 2) (h3 : P 3) (h4 : P 4) (h5 : P 5) (h6 : P 6) : ∀ w, w < 7 → P w := by
  intro w hw
  match w, hw with
  | 0, _ => exact h0
  | 1, _ => exact h1
  | 2, _ => exact h2
  | 3, _ => exact h3
  | 4, _ => exact h4
  | 5, _ => exact h5
  | 6, _ => exact h6
theorem cA_row {M M' : xM} {b b' s t : Nat} (hs : s < 32) (ht : t < 32) (h : ∀ w, w < 7 → M' (b' + 1 + w) s = M (b + 1 + w) t) : cA M' b' s = cA M b t := by
  have h0 : M' (b' + 1) s = M (b + 1) t := h 0 (by decide)
  have h1 : M' (b' + 2) s = M (b + 2) t := h 1 (by decide)
  have h6 : M' (b' + 7) s = M (b + 7) t := h 6 (by decide)
  funext w
  unfold cA occ
  rw [h0, h1, h6, decide_eq_true hs, decide_eq_true ht]
  split
  · split
    · rename_i hw
      exact h w (by omega)
    · rfl
  · rfl
theorem cA_free {M : xM} {b s : Nat} (h : M (b + 1) s = -1) : cA M b s = eR := by
  funext w
  unfold cA occ
  rw [h]
  simp
theorem cA_ge {M : xM} {b s : Nat} (h : 32 ≤ s) : cA M b s = eR := by
  funext w
  unfold cA occ
  rw [decide_eq_false (by omega)]
  simp
theorem cA_ext {M : xM} {b : Nat} {A : aR} (h : ∀ s, s < 32 → cA M b s = A s) (h2 : ∀ s, 32 ≤ s → A s = eR) : cA M b = A := by
  funext s
  rcases Nat.lt_or_ge s 32 with q | q
  · exact h s q
  · rw [cA_ge q, h2 s q]
theorem cA_none {M : xM} {b s : Nat} (h : aoc (cA M b) s = false) : cA M b s = eR := by
  rw [cA_oc] at h
  funext w
  unfold cA
  rw [h]
  rfl
theorem aoc_eR {A : aR} {s : Nat} (h : A s = eR) : aoc A s = false := by unfold aoc; rw [h]; rfl
/-- the memory now has the rows A' and the numbers g', and nothing else has changed -/
def mSt (M M' : xM) (A' : aR) (g' : Nat → Int32) : Prop := cA M' 16 = A' ∧ M' 16 = g' ∧ ∀ k, (k < 16 ∨ 24 ≤ k) → M' k = M k
theorem mSt.rf (M : xM) : mSt M M (cA M 16) (M 16) := ⟨rfl, rfl, fun _ _ => rfl⟩
theorem mSt.tr {M M1 M2 : xM} {A1 A2 : aR} {g1 g2 : Nat → Int32} (h1 : mSt M M1 A1 g1) (h2 : mSt M1 M2 A2 g2) : mSt M M2 A2 g2 := ⟨h2.1, h2.2.1, fun k hk => by rw [h2.2.2 k hk, h1.2.2 k hk]⟩
theorem mSt.num {M : xM} (j : Nat) (hj : 7 ≤ j) (x : Int32) : mSt M (xset M 16 j x) (cA M 16) (upd (M 16) j x) := by
  refine ⟨?_, ?_, fun k hk => ?_⟩
  · refine cA_ext (fun s hs => cA_row hs hs (fun w hw => ?_)) (fun s hs => cA_ge hs)
    rw [xset_at, if_neg (by omega)]
  · funext a
    rw [xset_at, if_pos rfl]
    rfl
  · funext a
    rw [xset_at, if_neg (by omega)]
/-! ===== Memory.moveEntry ===== -/
def aMv (A : aR) (i j : Nat) : aR := fun s => if i = j then A s else if s = i then eR else if s = j then A i else A s
theorem k_moveEntry (U : xP) (M : xM) {i j : Nat} (hi : i < 32) (hj : j < 32) : xMetV U mX1_moveEntry [.inr 16, .inl (nI i), .inl (nI j)] M (fun M' => mSt M M' (aMv (cA M 16) i j) (M 16)) := by
  refine xMetV.of (L := [some (.inr 16), some (.inl (nI i)), some (.inl (nI j))]) fX1_moveEntry rfl rfl (Nat.le_of_ble_eq_true rfl) (fun G hN hO hR => ?_)
  have hN : G.2.2.2.2.2.2.2.2.2.2.1 = 3 := hN
  have hO : xOK U G RX1 cX1_moveEntry 1 := hO
  refine x_iload_n hO dX1_moveEntry_0 rfl rfl ?_
  refine x_iload_n hO dX1_moveEntry_1 rfl rfl ?_
  refine x_icmp_eq (tgt := 19) hO dX1_moveEntry_2 (by decide) (fun c => ?_) (fun c => ?_)
  · have q : i = j := (nI_eq (by omega) (by omega)).mp c
    refine x_vret hO hR dX1_moveEntry_19 ?_
    have e : aMv (cA M 16) i j = cA M 16 := by funext s; simp [aMv, q]
    rw [e]
    exact mSt.rf M
  · have q : ¬ i = j := fun q => c (by rw [q])
    refine x_iload_n hO dX1_moveEntry_5 rfl rfl ?_
    refine x_callSN1 hO (k_isSlot U M (nI i)) dX1_moveEntry_6 lkX1_49 fX3_isSlot sX3_isSlot rfl rfl (by decide) (Nat.le_of_ble_eq_true rfl) ?_
    rw [ixB_n hi (by decide)]
    refine x_if_eq (tgt := 19) hO dX1_moveEntry_9 (by decide) (fun c1 => ?_) (fun c1 => ?_)
    · exact absurd c1 (by decide)
    · refine x_iload_n hO dX1_moveEntry_12 rfl rfl ?_
      refine x_callSN1 hO (k_isSlot U M (nI j)) dX1_moveEntry_13 lkX1_49 fX3_isSlot sX3_isSlot rfl rfl (by decide) (Nat.le_of_ble_eq_true rfl) ?_
      rw [ixB_n hj (by decide)]
      refine x_if_ne (tgt := 20) hO dX1_moveEntry_16 (by decide) (fun c2 => ?_) (fun c2 => ?_)
      · refine x_aload_n hO dX1_moveEntry_20 rfl rfl ?_
        refine x_getR (T := TX1) (j := 0) hO dX1_moveEntry_21 flX1_9 (by decide) rfl rfl (by decide) rfl rfl ?_
        refine x_iload_n hO dX1_moveEntry_24 rfl rfl ?_
        refine x_aload_n hO dX1_moveEntry_25 rfl rfl ?_
        refine x_getR (T := TX1) (j := 0) hO dX1_moveEntry_26 flX1_9 (by decide) rfl rfl (by decide) rfl rfl ?_
        refine x_iload_n hO dX1_moveEntry_29 rfl rfl ?_
        refine x_iald hO (by decide) rfl (by decide) (rfl) (hi) dX1_moveEntry_30 ?_
        refine x_iast hO (by decide) rfl (by decide) (rfl) (hj) dX1_moveEntry_31 ?_
        refine x_aload_n hO dX1_moveEntry_32 rfl rfl ?_
        refine x_getR (T := TX1) (j := 1) hO dX1_moveEntry_33 flX1_15 (by decide) rfl rfl (by decide) rfl rfl ?_
        refine x_iload_n hO dX1_moveEntry_36 rfl rfl ?_
        refine x_aload_n hO dX1_moveEntry_37 rfl rfl ?_
        refine x_getR (T := TX1) (j := 1) hO dX1_moveEntry_38 flX1_15 (by decide) rfl rfl (by decide) rfl rfl ?_
        refine x_iload_n hO dX1_moveEntry_41 rfl rfl ?_
        refine x_iald hO (by decide) rfl (by decide) (rfl) (hi) dX1_moveEntry_42 ?_
        refine x_iast hO (by decide) rfl (by decide) (rfl) (hj) dX1_moveEntry_43 ?_
        refine x_aload_n hO dX1_moveEntry_44 rfl rfl ?_
        refine x_getR (T := TX1) (j := 2) hO dX1_moveEntry_45 flX1_18 (by decide) rfl rfl (by decide) rfl rfl ?_
        refine x_iload_n hO dX1_moveEntry_48 rfl rfl ?_
        refine x_aload_n hO dX1_moveEntry_49 rfl rfl ?_
        refine x_getR (T := TX1) (j := 2) hO dX1_moveEntry_50 flX1_18 (by decide) rfl rfl (by decide) rfl rfl ?_
        refine x_iload_n hO dX1_moveEntry_53 rfl rfl ?_
        refine x_iald hO (by decide) rfl (by decide) (rfl) (hi) dX1_moveEntry_54 ?_
        refine x_iast hO (by decide) rfl (by decide) (rfl) (hj) dX1_moveEntry_55 ?_
        refine x_aload_n hO dX1_moveEntry_56 rfl rfl ?_
        refine x_getR (T := TX1) (j := 3) hO dX1_moveEntry_57 flX1_21 (by decide) rfl rfl (by decide) rfl rfl ?_
        refine x_iload_n hO dX1_moveEntry_60 rfl rfl ?_
        refine x_aload_n hO dX1_moveEntry_61 rfl rfl ?_
        refine x_getR (T := TX1) (j := 3) hO dX1_moveEntry_62 flX1_21 (by decide) rfl rfl (by decide) rfl rfl ?_
        refine x_iload_n hO dX1_moveEntry_65 rfl rfl ?_
        refine x_iald hO (by decide) rfl (by decide) (rfl) (hi) dX1_moveEntry_66 ?_
        refine x_iast hO (by decide) rfl (by decide) (rfl) (hj) dX1_moveEntry_67 ?_
        refine x_aload_n hO dX1_moveEntry_68 rfl rfl ?_
        refine x_getR (T := TX1) (j := 4) hO dX1_moveEntry_69 flX1_24 (by decide) rfl rfl (by decide) rfl rfl ?_
        refine x_iload_n hO dX1_moveEntry_72 rfl rfl ?_
        refine x_aload_n hO dX1_moveEntry_73 rfl rfl ?_
        refine x_getR (T := TX1) (j := 4) hO dX1_moveEntry_74 flX1_24 (by decide) rfl rfl (by decide) rfl rfl ?_
        refine x_iload_n hO dX1_moveEntry_77 rfl rfl ?_
        refine x_iald hO (by decide) rfl (by decide) (rfl) (hi) dX1_moveEntry_78 ?_
        refine x_iast hO (by decide) rfl (by decide) (rfl) (hj) dX1_moveEntry_79 ?_
        refine x_aload_n hO dX1_moveEntry_80 rfl rfl ?_
        refine x_getR (T := TX1) (j := 5) hO dX1_moveEntry_81 flX1_27 (by decide) rfl rfl (by decide) rfl rfl ?_
        refine x_iload_n hO dX1_moveEntry_84 rfl rfl ?_
        refine x_aload_n hO dX1_moveEntry_85 rfl rfl ?_
        refine x_getR (T := TX1) (j := 5) hO dX1_moveEntry_86 flX1_27 (by decide) rfl rfl (by decide) rfl rfl ?_
        refine x_iload_n hO dX1_moveEntry_89 rfl rfl ?_
        refine x_iald hO (by decide) rfl (by decide) (rfl) (hi) dX1_moveEntry_90 ?_
        refine x_iast hO (by decide) rfl (by decide) (rfl) (hj) dX1_moveEntry_91 ?_
        refine x_aload_n hO dX1_moveEntry_92 rfl rfl ?_
        refine x_getR (T := TX1) (j := 6) hO dX1_moveEntry_93 flX1_30 (by decide) rfl rfl (by decide) rfl rfl ?_
        refine x_iload_n hO dX1_moveEntry_96 rfl rfl ?_
        refine x_aload_n hO dX1_moveEntry_97 rfl rfl ?_
        refine x_getR (T := TX1) (j := 6) hO dX1_moveEntry_98 flX1_30 (by decide) rfl rfl (by decide) rfl rfl ?_
        refine x_iload_n hO dX1_moveEntry_101 rfl rfl ?_
        refine x_iald hO (by decide) rfl (by decide) (rfl) (hi) dX1_moveEntry_102 ?_
        refine x_iast hO (by decide) rfl (by decide) (rfl) (hj) dX1_moveEntry_103 ?_
        refine x_aload_n hO dX1_moveEntry_104 rfl rfl ?_
        refine x_getR (T := TX1) (j := 0) hO dX1_moveEntry_105 flX1_9 (by decide) rfl rfl (by decide) rfl rfl ?_
        refine x_iload_n hO dX1_moveEntry_108 rfl rfl ?_
        refine x_iconst (v := (-1 : Int32)) hO dX1_moveEntry_109 rfl ?_
        refine x_iast hO (by decide) rfl (by decide) (rfl) (hi) dX1_moveEntry_110 ?_
        refine x_vret hO hR dX1_moveEntry_111 ?_
        refine ⟨cA_ext (fun s hs => ?_) (fun s hs => ?_), ?_, fun k hk => ?_⟩
        · unfold aMv
          rw [if_neg q]
          split
          · rename_i e
            subst e
            refine cA_free ?_
            simp [xset_at]
          · rename_i e
            split
            · rename_i e2
              subst e2
              refine cA_row hs hi (all7 ?_ ?_ ?_ ?_ ?_ ?_ ?_) <;> simp [xset_at, q, e]
            · rename_i e2
              refine cA_row hs hs (all7 ?_ ?_ ?_ ?_ ?_ ?_ ?_) <;> simp [xset_at, e, e2]
        · unfold aMv
          rw [if_neg q, if_neg (by omega), if_neg (by omega), cA_ge hs]
        · funext a
          simp [xset_at]
        · funext a
          have h17 : ¬ k = 17 := by omega
          have h18 : ¬ k = 18 := by omega
          have h19 : ¬ k = 19 := by omega
          have h20 : ¬ k = 20 := by omega
          have h21 : ¬ k = 21 := by omega
          have h22 : ¬ k = 22 := by omega
          have h23 : ¬ k = 23 := by omega
          simp [xset_at, h17, h18, h19, h20, h21, h22, h23]
      · exact absurd c2 (by decide)
/-! ===== Memory.moveUp, moveDown ===== -/
/-- the rows b to b + n - 1 are one slot further, those that have moved: from b + k on -/
def aUp (A : aR) (b n k : Nat) : aR := fun s => if b + k < s ∧ s ≤ b + n then A (s - 1) else if s = b + k ∧ k < n then eR else A s
theorem aUp_0 (A : aR) (b n : Nat) : aUp A b n n = A := by
  funext s
  unfold aUp
  rw [if_neg (by omega), if_neg (by omega)]
theorem aUp_s (A : aR) (b n k : Nat) (hk : k < n) : aMv (aUp A b n (k + 1)) (b + k) (b + k + 1) = aUp A b n k := by
  funext s
  unfold aMv aUp
  rw [if_neg (by omega)]
  by_cases e1 : s = b + k
  · rw [if_pos e1, if_neg (by omega), if_pos ⟨e1, hk⟩]
  · rw [if_neg e1]
    by_cases e2 : s = b + k + 1
    · rw [if_pos e2, if_neg (by omega), if_neg (by omega), if_pos (by omega)]
      congr 1
      omega
    · rw [if_neg e2]
      by_cases e3 : b + k < s ∧ s ≤ b + n
      · rw [if_pos (by omega), if_pos e3]
      · rw [if_neg (by omega), if_neg (by omega), if_neg e3, if_neg (by omega)]
theorem nI_sub1 (k : Nat) : nI (k + 1) - nI 1 = nI k := pk_sub (a := k + 1) (by omega)
theorem k_moveUp (U : xP) (M : xM) {b n : Nat} (h : b + n < 32) : xMetV U mX1_moveUp [.inr 16, .inl (nI b), .inl (nI n)] M (fun M' => mSt M M' (aUp (cA M 16) b n 0) (upd (M 16) 9 (M 16 9 + nI n))) := by
  refine xMetV.of (L := [some (.inr 16), some (.inl (nI b)), some (.inl (nI n)), none]) fX1_moveUp rfl rfl (Nat.le_of_ble_eq_true rfl) (fun G hN hO hR => ?_)
  have hN : G.2.2.2.2.2.2.2.2.2.2.1 = 4 := hN
  have hO : xOK U G RX1 cX1_moveUp 2 := hO
  refine x_iload_n hO dX1_moveUp_0 rfl rfl ?_
  refine x_iload_n hO dX1_moveUp_1 rfl rfl ?_
  refine x_iadd hO dX1_moveUp_2 ?_
  rw [nI_add]
  refine x_istore_n (n := 4) hO dX1_moveUp_3 rfl rfl (by decide) hN ?_
  have loop : ∀ k, k ≤ n → ∀ M1, mSt M M1 (aUp (cA M 16) b n k) (M 16) → XW U G 4 [some (.inr 16), some (.inl (nI b)), some (.inl (nI n)), some (.inl (nI (b + k)))] [] M1 := by
    intro k
    induction k with
    | zero =>
      intro _ M1 h1
      refine x_iload_n hO dX1_moveUp_4 rfl rfl ?_
      refine x_iload_n hO dX1_moveUp_5 rfl rfl ?_
      refine x_icmp_le (tgt := 23) hO dX1_moveUp_6 (by decide) (fun c => ?_) (fun c => ?_)
      · refine x_aload_n hO dX1_moveUp_23 rfl rfl ?_
        refine x_dup hO dX1_moveUp_24 ?_
        refine x_getI (T := TX1) (j := 9) hO dX1_moveUp_25 flX1_40 (by decide) rfl rfl (by decide) rfl rfl ?_
        refine x_iload_n hO dX1_moveUp_28 rfl rfl ?_
        refine x_iadd hO dX1_moveUp_29 ?_
        refine x_put (T := TX1) (j := 9) (ty := .int) hO dX1_moveUp_30 flX1_40 (by decide) rfl rfl (by decide) rfl rfl rfl (by decide +kernel) rfl rfl ?_
        refine x_vret hO hR dX1_moveUp_33 ?_
        have e : M1 16 9 = M 16 9 := by rw [h1.2.1]
        rw [e]
        have h2 := mSt.tr h1 (mSt.num (M := M1) 9 (by decide) (M 16 9 + nI n))
        rw [h1.1, h1.2.1] at h2
        exact h2
      · exact absurd (Int32.le_refl _) c
    | succ k ih =>
      intro hk M1 h1
      refine x_iload_n hO dX1_moveUp_4 rfl rfl ?_
      refine x_iload_n hO dX1_moveUp_5 rfl rfl ?_
      refine x_icmp_le (tgt := 23) hO dX1_moveUp_6 (by decide) (fun c => ?_) (fun c => ?_)
      · exact absurd c (nI_ge (by omega) (by omega))
      · refine x_aload_n hO dX1_moveUp_9 rfl rfl ?_
        refine x_iload_n hO dX1_moveUp_10 rfl rfl ?_
        refine x_iconst (v := nI 1) hO dX1_moveUp_11 rfl ?_
        refine x_isub hO dX1_moveUp_12 ?_
        rw [show b + (k + 1) = b + k + 1 from rfl, nI_sub1]
        refine x_iload_n hO dX1_moveUp_13 rfl rfl ?_
        refine x_callVv hO (k_moveEntry U M1 (i := b + k) (j := b + k + 1) (by omega) (by omega)) dX1_moveUp_14 lkX1_102 fX1_moveEntry vX1_moveEntry (by decide) rfl rfl rfl rfl rfl (by decide) (Nat.le_of_ble_eq_true rfl) (fun M' h2 => ?_)
        have h3 := mSt.tr h1 h2
        rw [h1.1, h1.2.1, aUp_s _ _ _ _ (by omega)] at h3
        refine x_iinc hO dX1_moveUp_17 rfl (by first | exact xdec_n _ | rfl) rfl hN ?_
        refine x_goto (tgt := 4) hO dX1_moveUp_20 (by decide) ?_
        exact ih (by omega) M' h3
  exact loop n (Nat.le_refl _) M (by rw [aUp_0]; exact mSt.rf M)
/-- the rows l - n + 1 to l are one slot lower, the first k of them have moved -/
def aDn (A : aR) (l n k : Nat) : aR := fun s => if l - n ≤ s ∧ s < l - n + k then A (s + 1) else if s = l - n + k ∧ 0 < k then eR else A s
theorem aDn_0 (A : aR) (l n : Nat) : aDn A l n 0 = A := by
  funext s
  unfold aDn
  rw [if_neg (by omega), if_neg (by omega)]
theorem aDn_s (A : aR) (l n k : Nat) : aMv (aDn A l n k) (l - n + k + 1) (l - n + k) = aDn A l n (k + 1) := by
  funext s
  unfold aMv aDn
  rw [if_neg (by omega)]
  by_cases e1 : s = l - n + k + 1
  · rw [if_pos e1, if_neg (by omega), if_pos (by omega)]
  · rw [if_neg e1]
    by_cases e2 : s = l - n + k
    · rw [if_pos e2, if_neg (by omega), if_neg (by omega), if_pos (by omega)]
      congr 1
      omega
    · rw [if_neg e2]
      by_cases e3 : l - n ≤ s ∧ s < l - n + k
      · rw [if_pos e3, if_pos (by omega)]
      · rw [if_neg e3, if_neg (by omega), if_neg (by omega), if_neg (by omega)]
theorem k_moveDown (U : xP) (M : xM) {l n : Nat} (hl : l < 32) (hn : n ≤ l) : xMetV U mX1_moveDown [.inr 16, .inl (nI l), .inl (nI n)] M (fun M' => mSt M M' (aDn (cA M 16) l n n) (upd (M 16) 9 (M 16 9 + nI n))) := by
  refine xMetV.of (L := [some (.inr 16), some (.inl (nI l)), some (.inl (nI n)), none]) fX1_moveDown rfl rfl (Nat.le_of_ble_eq_true rfl) (fun G hN hO hR => ?_)
  have hN : G.2.2.2.2.2.2.2.2.2.2.1 = 4 := hN
  have hO : xOK U G RX1 cX1_moveDown 2 := hO
  refine x_iload_n hO dX1_moveDown_0 rfl rfl ?_
  refine x_iload_n hO dX1_moveDown_1 rfl rfl ?_
  refine x_isub hO dX1_moveDown_2 ?_
  rw [pk_sub hn]
  refine x_istore_n (n := 4) hO dX1_moveDown_3 rfl rfl (by decide) hN ?_
  refine upd_ind (P := fun k _ => ∀ M1, mSt M M1 (aDn (cA M 16) l n k) (M 16) → XW U G 4 [some (.inr 16), some (.inl (nI l)), some (.inl (nI n)), some (.inl (nI (l - n + k)))] [] M1) n ?_ ?_ n 0 (by omega) M (by rw [aDn_0]; exact mSt.rf M)
  · intro M1 h1
    refine x_iload_n hO dX1_moveDown_4 rfl rfl ?_
    refine x_iload_n hO dX1_moveDown_5 rfl rfl ?_
    refine x_icmp_ge (tgt := 23) hO dX1_moveDown_6 (by decide) (fun c => ?_) (fun c => ?_)
    · refine x_aload_n hO dX1_moveDown_23 rfl rfl ?_
      refine x_dup hO dX1_moveDown_24 ?_
      refine x_getI (T := TX1) (j := 9) hO dX1_moveDown_25 flX1_40 (by decide) rfl rfl (by decide) rfl rfl ?_
      refine x_iload_n hO dX1_moveDown_28 rfl rfl ?_
      refine x_iadd hO dX1_moveDown_29 ?_
      refine x_put (T := TX1) (j := 9) (ty := .int) hO dX1_moveDown_30 flX1_40 (by decide) rfl rfl (by decide) rfl rfl rfl (by decide +kernel) rfl rfl ?_
      refine x_vret hO hR dX1_moveDown_33 ?_
      have e : M1 16 9 = M 16 9 := by rw [h1.2.1]
      rw [e]
      have h2 := mSt.tr h1 (mSt.num (M := M1) 9 (by decide) (M 16 9 + nI n))
      rw [h1.1, h1.2.1] at h2
      exact h2
    · exact absurd (nI_le (by omega) (by omega)) c
  · intro k d hd ih M1 h1
    refine x_iload_n hO dX1_moveDown_4 rfl rfl ?_
    refine x_iload_n hO dX1_moveDown_5 rfl rfl ?_
    refine x_icmp_ge (tgt := 23) hO dX1_moveDown_6 (by decide) (fun c => ?_) (fun c => ?_)
    · exact absurd c (nI_ge (by omega) (by omega))
    · refine x_aload_n hO dX1_moveDown_9 rfl rfl ?_
      refine x_iload_n hO dX1_moveDown_10 rfl rfl ?_
      refine x_iconst (v := nI 1) hO dX1_moveDown_11 rfl ?_
      refine x_iadd hO dX1_moveDown_12 ?_
      rw [nI_add]
      refine x_iload_n hO dX1_moveDown_13 rfl rfl ?_
      refine x_callVv hO (k_moveEntry U M1 (i := l - n + k + 1) (j := l - n + k) (by omega) (by omega)) dX1_moveDown_14 lkX1_102 fX1_moveEntry vX1_moveEntry (by decide) rfl rfl rfl rfl rfl (by decide) (Nat.le_of_ble_eq_true rfl) (fun M' h2 => ?_)
      have h3 := mSt.tr h1 h2
      rw [h1.1, h1.2.1, aDn_s] at h3
      refine x_iinc hO dX1_moveDown_17 rfl (by first | exact xinc_n _ | rfl) rfl hN ?_
      refine x_goto (tgt := 4) hO dX1_moveDown_20 (by decide) ?_
      exact ih M' h3
/-! ===== Memory.fill ===== -/
def rowOf (r p m v k a : Int32) : Nat → Int32 := fun w => match w with
  | 0 => r
  | 1 => p
  | 2 => m
  | 3 => v &&& m
  | 4 => k
  | 5 => a
  | _ => 0
theorem k_fill (U : xP) (M : xM) {j : Nat} (hj : j < 32) (r p m v k a : Int32) (hr : r ≠ -1) : xMetV U mX1_fill [.inr 16, .inl (nI j), .inl r, .inl p, .inl m, .inl v, .inl k, .inl a] M (fun M' => mSt M M' (fun s => if s = j then rowOf r p m v k a else cA M 16 s) (M 16)) := by
  refine xMetV.of (L := [some (.inr 16), some (.inl (nI j)), some (.inl r), some (.inl p), some (.inl m), some (.inl v), some (.inl k), some (.inl a)]) fX1_fill rfl rfl (Nat.le_of_ble_eq_true rfl) (fun G hN hO hR => ?_)
  have hN : G.2.2.2.2.2.2.2.2.2.2.1 = 8 := hN
  have hO : xOK U G RX1 cX1_fill 1 := hO
  refine x_iload_n hO dX1_fill_0 rfl rfl ?_
  refine x_callSN1 hO (k_isSlot U M (nI j)) dX1_fill_1 lkX1_49 fX3_isSlot sX3_isSlot rfl rfl (by decide) (Nat.le_of_ble_eq_true rfl) ?_
  rw [ixB_n hj (by decide)]
  refine x_if_ne (tgt := 8) hO dX1_fill_4 (by decide) (fun c => ?_) (fun c => ?_)
  · refine x_aload_n hO dX1_fill_8 rfl rfl ?_
    refine x_getR (T := TX1) (j := 0) hO dX1_fill_9 flX1_9 (by decide) rfl rfl (by decide) rfl rfl ?_
    refine x_iload_n hO dX1_fill_12 rfl rfl ?_
    refine x_iload_n hO dX1_fill_13 rfl rfl ?_
    refine x_iast hO (by decide) rfl (by decide) (rfl) (hj) dX1_fill_14 ?_
    refine x_aload_n hO dX1_fill_15 rfl rfl ?_
    refine x_getR (T := TX1) (j := 1) hO dX1_fill_16 flX1_15 (by decide) rfl rfl (by decide) rfl rfl ?_
    refine x_iload_n hO dX1_fill_19 rfl rfl ?_
    refine x_iload_n hO dX1_fill_20 rfl rfl ?_
    refine x_iast hO (by decide) rfl (by decide) (rfl) (hj) dX1_fill_21 ?_
    refine x_aload_n hO dX1_fill_22 rfl rfl ?_
    refine x_getR (T := TX1) (j := 2) hO dX1_fill_23 flX1_18 (by decide) rfl rfl (by decide) rfl rfl ?_
    refine x_iload_n hO dX1_fill_26 rfl rfl ?_
    refine x_iload hO dX1_fill_27 rfl ?_
    refine x_iast hO (by decide) rfl (by decide) (rfl) (hj) dX1_fill_29 ?_
    refine x_aload_n hO dX1_fill_30 rfl rfl ?_
    refine x_getR (T := TX1) (j := 3) hO dX1_fill_31 flX1_21 (by decide) rfl rfl (by decide) rfl rfl ?_
    refine x_iload_n hO dX1_fill_34 rfl rfl ?_
    refine x_iload hO dX1_fill_35 rfl ?_
    refine x_iload hO dX1_fill_37 rfl ?_
    refine x_iand hO dX1_fill_39 ?_
    refine x_iast hO (by decide) rfl (by decide) (rfl) (hj) dX1_fill_40 ?_
    refine x_aload_n hO dX1_fill_41 rfl rfl ?_
    refine x_getR (T := TX1) (j := 4) hO dX1_fill_42 flX1_24 (by decide) rfl rfl (by decide) rfl rfl ?_
    refine x_iload_n hO dX1_fill_45 rfl rfl ?_
    refine x_iload hO dX1_fill_46 rfl ?_
    refine x_iast hO (by decide) rfl (by decide) (rfl) (hj) dX1_fill_48 ?_
    refine x_aload_n hO dX1_fill_49 rfl rfl ?_
    refine x_getR (T := TX1) (j := 5) hO dX1_fill_50 flX1_27 (by decide) rfl rfl (by decide) rfl rfl ?_
    refine x_iload_n hO dX1_fill_53 rfl rfl ?_
    refine x_iload hO dX1_fill_54 rfl ?_
    refine x_iast hO (by decide) rfl (by decide) (rfl) (hj) dX1_fill_56 ?_
    refine x_aload_n hO dX1_fill_57 rfl rfl ?_
    refine x_getR (T := TX1) (j := 6) hO dX1_fill_58 flX1_30 (by decide) rfl rfl (by decide) rfl rfl ?_
    refine x_iload_n hO dX1_fill_61 rfl rfl ?_
    refine x_iconst (v := nI 0) hO dX1_fill_62 rfl ?_
    refine x_iast hO (by decide) rfl (by decide) (rfl) (hj) dX1_fill_63 ?_
    refine x_vret hO hR dX1_fill_64 ?_
    refine ⟨cA_ext (fun s hs => ?_) (fun s hs => ?_), ?_, fun k hk => ?_⟩
    · split
      · rename_i e
        subst e
        funext w
        have ho : (r == -1) = false := by simpa using hr
        unfold cA occ
        simp only [xset_at]
        simp only [hs, ho]
        match w with
        | 0 => simp [rowOf, hr]
        | 1 => simp [rowOf, hr]
        | 2 => simp [rowOf, hr]
        | 3 => simp [rowOf, hr]
        | 4 => simp [rowOf, hr]
        | 5 => simp [rowOf, hr]
        | w + 6 =>
          show _ = (0 : Int32)
          simp [hr]
          rw [if_neg (by omega)]
          split <;> rfl
      · rename_i e
        refine cA_row hs hs (all7 ?_ ?_ ?_ ?_ ?_ ?_ ?_) <;> simp [xset_at, e]
    · rw [if_neg (by omega), cA_ge hs]
    · funext a
      simp [xset_at]
    · funext a
      have h17 : ¬ k = 17 := by omega
      have h18 : ¬ k = 18 := by omega
      have h19 : ¬ k = 19 := by omega
      have h20 : ¬ k = 20 := by omega
      have h21 : ¬ k = 21 := by omega
      have h22 : ¬ k = 22 := by omega
      have h23 : ¬ k = 23 := by omega
      simp [xset_at, h17, h18, h19, h20, h21, h22, h23]
  · exact absurd c (by decide)
/-! ===== Memory.dropEntriesOf ===== -/
def aDrop (A : aR) (x : Int32) : aR := fun s => if A s 0 = x then eR else A s
def dropM (M : xM) (x : Int32) (i : Nat) : xM := fun k s => if k = 17 ∧ s < i ∧ M 17 s = x then -1 else M k s
theorem k_dropEntriesOf (U : xP) (M : xM) (x : Int32) : xMetV U mX1_dropEntriesOf [.inr 16, .inl x] M (fun M' => mSt M M' (aDrop (cA M 16) x) (M 16)) := by
  refine xMetV.of (L := [some (.inr 16), some (.inl x), none]) fX1_dropEntriesOf rfl rfl (Nat.le_of_ble_eq_true rfl) (fun G hN hO hR => ?_)
  have hN : G.2.2.2.2.2.2.2.2.2.2.1 = 3 := hN
  have hO : xOK U G RX1 cX1_dropEntriesOf 0 := hO
  refine x_iconst (v := nI 0) hO dX1_dropEntriesOf_0 rfl ?_
  refine x_istore_n (n := 3) hO dX1_dropEntriesOf_1 rfl rfl (by decide) hN ?_
  have e0 : dropM M x 0 = M := by funext k s; simp [dropM]
  have h0 := upd_ind (P := fun i _ => XW U G 2 [some (.inr 16), some (.inl x), some (.inl (nI i))] [] (dropM M x i)) 32 ?_ ?_ 32 0 rfl
  · rw [e0] at h0
    exact h0
  · refine x_iload_n hO dX1_dropEntriesOf_2 rfl rfl ?_
    refine x_bipush (v := nI 32) hO dX1_dropEntriesOf_3 rfl ?_
    refine x_icmp_ge (tgt := 31) hO dX1_dropEntriesOf_5 (by decide) (fun c => ?_) (fun c => ?_)
    · refine x_vret hO hR dX1_dropEntriesOf_31 ?_
      refine ⟨cA_ext (fun s hs => ?_) (fun s hs => ?_), ?_, fun k hk => ?_⟩
      · unfold aDrop
        by_cases e : M 17 s = x
        · have e1 : cA (dropM M x 32) 16 s = eR := cA_free (by simp [dropM, hs, e])
          rw [e1]
          split
          · rfl
          · rename_i q
            by_cases e2 : M 17 s = -1
            · rw [cA_free e2]
            · rw [e] at e2
              exact absurd (by unfold cA; simp [occ, hs, e2, e]) q
        · have e1 : cA (dropM M x 32) 16 s = cA M 16 s := cA_row hs hs (fun w hw => by simp [dropM, e])
          rw [e1]
          split
          · rename_i q
            by_cases e2 : M 17 s = -1
            · rw [cA_free e2]
            · exact absurd (by rw [← q]; unfold cA; simp [occ, hs, e2]) e
          · rfl
      · unfold aDrop
        rw [cA_ge hs]
        split <;> rfl
      · funext a
        simp [dropM]
      · funext a
        have h17 : ¬ k = 17 := by omega
        simp [dropM, h17]
    · exact absurd (Int32.le_refl _) c
  · intro i d hd ih
    have hi : i < 32 := by omega
    have er : dropM M x i 17 i = M 17 i := by simp [dropM]
    refine x_iload_n hO dX1_dropEntriesOf_2 rfl rfl ?_
    refine x_bipush (v := nI 32) hO dX1_dropEntriesOf_3 rfl ?_
    refine x_icmp_ge (tgt := 31) hO dX1_dropEntriesOf_5 (by decide) (fun c => ?_) (fun c => ?_)
    · exact absurd c (nI_ge hi (by decide))
    · refine x_aload_n hO dX1_dropEntriesOf_8 rfl rfl ?_
      refine x_getR (T := TX1) (j := 0) hO dX1_dropEntriesOf_9 flX1_9 (by decide) rfl rfl (by decide) rfl rfl ?_
      refine x_iload_n hO dX1_dropEntriesOf_12 rfl rfl ?_
      refine x_iald hO (by decide) rfl (by decide) (rfl) (hi) dX1_dropEntriesOf_13 ?_
      refine x_iload_n hO dX1_dropEntriesOf_14 rfl rfl ?_
      rw [er]
      refine x_icmp_ne (tgt := 25) hO dX1_dropEntriesOf_15 (by decide) (fun c2 => ?_) (fun c2 => ?_)
      · refine x_iinc hO dX1_dropEntriesOf_25 rfl (by first | exact xinc_n _ | rfl) rfl hN ?_
        refine x_goto (tgt := 2) hO dX1_dropEntriesOf_28 (by decide) ?_
        have e : dropM M x (i + 1) = dropM M x i := by
          funext k s
          unfold dropM
          by_cases q : s = i
          · subst q
            rw [if_neg (fun z => c2 z.2.2), if_neg (fun z => by omega)]
          · have : s < i + 1 ↔ s < i := by omega
            simp only [this]
        rw [e] at ih
        exact ih
      · refine x_aload_n hO dX1_dropEntriesOf_18 rfl rfl ?_
        refine x_getR (T := TX1) (j := 0) hO dX1_dropEntriesOf_19 flX1_9 (by decide) rfl rfl (by decide) rfl rfl ?_
        refine x_iload_n hO dX1_dropEntriesOf_22 rfl rfl ?_
        refine x_iconst (v := (-1 : Int32)) hO dX1_dropEntriesOf_23 rfl ?_
        refine x_iast hO (by decide) rfl (by decide) (rfl) (hi) dX1_dropEntriesOf_24 ?_
        refine x_iinc hO dX1_dropEntriesOf_25 rfl (by first | exact xinc_n _ | rfl) rfl hN ?_
        refine x_goto (tgt := 2) hO dX1_dropEntriesOf_28 (by decide) ?_
        have e : dropM M x (i + 1) = xset (dropM M x i) 17 i (-1) := by
          funext k s
          rw [xset_at]
          unfold dropM
          by_cases q : k = 17
          · subst q
            by_cases q2 : s = i
            · subst q2
              simp [c2]
            · have : s < i + 1 ↔ s < i := by omega
              simp [this, q2]
          · simp [q]
        rw [e] at ih
        exact ih
end
section
/-! ===== Memory.openSlot, addSingle ===== -/
theorem nC_full {P : Nat → Bool} : ∀ {n : Nat}, (∀ i, i < n → P i = true) → nC P n = n
  | 0, _ => rfl
  | n + 1, h => by rw [nC_t (h n (by omega)), nC_full (n := n) (fun i hi => h i (by omega))]
/-- there is room -/
theorem aFree_ex {A : aR} (h : aCnt A < 32) : ∃ s, s < 32 ∧ aoc A s = false := by
  rcases Classical.em (∃ s, s < 32 ∧ aoc A s = false) with q | q
  · exact q
  · have e : aCnt A = 32 := nC_full (fun i hi => by
      cases e : aoc A i with
      | true => rfl
      | false => exact absurd ⟨i, hi, e⟩ q)
    omega
theorem oM_free {A : aR} (h : aCnt A < 32) {p b : Nat} (hp : p ≤ 32) (hb : b ≤ p) : ¬ (aMu A b = 33 ∧ aMd A p = 33) := by
  obtain ⟨s, hs, hf⟩ := aFree_ex h
  have h1 := aMu_33 A b
  have h2 := aMd_33 A hp
  rintro ⟨e1, e2⟩
  rcases Nat.lt_or_ge s b with q | q
  · unfold aMd at e2
    split at e2
    · rename_i z
      have := nL_no (P := pFr A) (n := p) (j := s) (by omega) (by omega)
      simp [pFr, hf] at this
    · omega
  · unfold aMu at e1
    have a := nF_le (P := pFr A) (32 - b) b
    split at e1
    · omega
    · have := nF_no (P := pFr A) (32 - b) b s q (by omega)
      simp [pFr, hf] at this
/-- the slot for a new entry of the rank r, by the placing rule P; the rows when room has been made -/
def oS (A : aR) (P r : Int32) : Nat := if aP A r < aB A r then aPl P (aP A r) (aB A r) else if aMu A (aB A r) ≤ aMd A (aP A r) then aB A r else aP A r - 1
def oA (A : aR) (r : Int32) : aR := if aP A r < aB A r then A else if aMu A (aB A r) ≤ aMd A (aP A r) then aUp A (aB A r) (aMu A (aB A r)) 0 else aDn A (aP A r - 1) (aMd A (aP A r)) (aMd A (aP A r))
theorem aPl_lt {P : Int32} {p b : Nat} (hb : b ≤ 32) (h : p < b) : p ≤ aPl P p b ∧ aPl P p b < b := by
  unfold aPl
  split
  · omega
  · split <;> omega
theorem oS_lt {A : aR} (P r : Int32) (h : aCnt A < 32) : oS A P r < 32 := by
  unfold oS
  have h1 := aP_le A r
  have h2 := aB_le A r
  split
  · rename_i q
    have := aPl_lt (P := P) h2 q
    omega
  · rename_i q
    have h3 := oM_free h h1 (Nat.not_lt.mp q)
    split
    · rename_i z
      have := (aMu_le (A := A) (f := aB A r) (by have := aMd_33 A h1; omega)).1
      omega
    · rename_i z
      have h4 := aMu_33 A (aB A r)
      have := (aMd_le (A := A) h1 (by omega)).1
      omega
theorem k_openSlot (U : xP) (M : xM) (x : Int32) (h : aCnt (cA M 16) < 32) : xMetI U mX1_openSlot [.inr 16, .inl x] M (fun r M' => r = nI (oS (cA M 16) (M 16 7) x) ∧ mSt M M' (oA (cA M 16) x) (upd (M 16) 9 (M 16 9 + nI (oM (cA M 16) x)))) := by
  refine xMetI.of (ty := .int) (L := [some (.inr 16), some (.inl x), none, none, none, none]) fX1_openSlot rfl rfl (Nat.le_of_ble_eq_true rfl) (fun G hN hO hR => ?_)
  have hN : G.2.2.2.2.2.2.2.2.2.2.1 = 6 := hN
  have hO : xOK U G RX1 cX1_openSlot 3 := hO
  have h1 := aP_le (cA M 16) x
  have h2 := aB_le (cA M 16) x
  unfold oS oA oM at hR
  refine x_aload_n hO dX1_openSlot_0 rfl rfl ?_
  refine x_iload_n hO dX1_openSlot_1 rfl rfl ?_
  refine x_callV1 hO (k_lastSlotUpTo U M x) dX1_openSlot_2 lkX1_75 fX1_lastSlotUpTo vX1_lastSlotUpTo (by decide) rfl rfl rfl rfl rfl (by decide) (Nat.le_of_ble_eq_true rfl) ?_
  refine x_istore_n (n := 6) hO dX1_openSlot_5 rfl rfl (by decide) hN ?_
  refine x_aload_n hO dX1_openSlot_6 rfl rfl ?_
  refine x_iload_n hO dX1_openSlot_7 rfl rfl ?_
  refine x_callV1 hO (k_firstSlotBeyond U M x) dX1_openSlot_8 lkX1_78 fX1_firstSlotBeyond vX1_firstSlotBeyond (by decide) rfl rfl rfl rfl rfl (by decide) (Nat.le_of_ble_eq_true rfl) ?_
  refine x_istore_n (n := 6) hO dX1_openSlot_11 rfl rfl (by decide) hN ?_
  refine x_iload_n hO dX1_openSlot_12 rfl rfl ?_
  refine x_iload_n hO dX1_openSlot_13 rfl rfl ?_
  refine x_isub hO dX1_openSlot_14 ?_
  refine x_iconst (v := nI 1) hO dX1_openSlot_15 rfl ?_
  change XW U G _ _ [.inl (nI 1), .inl (nI (aB (cA M 16) x) - xm (aP (cA M 16) x))] M
  refine x_icmp_le (tgt := 26) hO dX1_openSlot_16 (by decide) (fun c => ?_) (fun c => ?_)
  · have q : aB (cA M 16) x ≤ aP (cA M 16) x := (xm_gap _ (by omega) _ (by omega)).mp c
    simp only [if_neg (show ¬ aP (cA M 16) x < aB (cA M 16) x by omega)] at hR
    have h3 := oM_free h h1 q
    have u3 := aMu_33 (cA M 16) (aB (cA M 16) x)
    have d3 := aMd_33 (cA M 16) h1
    refine x_aload_n hO dX1_openSlot_26 rfl rfl ?_
    refine x_iload_n hO dX1_openSlot_27 rfl rfl ?_
    refine x_callV1 hO (k_movesUpFrom U M h2) dX1_openSlot_28 lkX1_84 fX1_movesUpFrom vX1_movesUpFrom (by decide) rfl rfl rfl rfl rfl (by decide) (Nat.le_of_ble_eq_true rfl) ?_
    refine x_istore (n := 6) hO dX1_openSlot_31 rfl (by decide) hN ?_
    refine x_aload_n hO dX1_openSlot_33 rfl rfl ?_
    refine x_iload_n hO dX1_openSlot_34 rfl rfl ?_
    refine x_callV1 hO (k_movesDownFrom U M h1) dX1_openSlot_35 lkX1_87 fX1_movesDownFrom vX1_movesDownFrom (by decide) rfl rfl rfl rfl rfl (by decide) (Nat.le_of_ble_eq_true rfl) ?_
    refine x_istore (n := 6) hO dX1_openSlot_38 rfl (by decide) hN ?_
    refine x_iload hO dX1_openSlot_40 rfl ?_
    refine x_bipush (v := nI 33) hO dX1_openSlot_42 rfl ?_
    have fin : XW U G 56 [some (.inr 16), some (.inl x), some (.inl (xm (aP (cA M 16) x))), some (.inl (nI (aB (cA M 16) x))), some (.inl (nI (aMu (cA M 16) (aB (cA M 16) x)))), some (.inl (nI (aMd (cA M 16) (aP (cA M 16) x))))] [] M := by
      refine x_iload hO dX1_openSlot_56 rfl ?_
      refine x_iload hO dX1_openSlot_58 rfl ?_
      refine x_icmp_gt (tgt := 72) hO dX1_openSlot_60 (by decide) (fun c2 => ?_) (fun c2 => ?_)
      · have q2 : ¬ aMu (cA M 16) (aB (cA M 16) x) ≤ aMd (cA M 16) (aP (cA M 16) x) := by have := (nI_ltI (by omega) (by omega)).mp c2; omega
        simp only [if_neg q2] at hR
        obtain ⟨l, hl⟩ : ∃ l, aP (cA M 16) x = l + 1 := ⟨aP (cA M 16) x - 1, by have := (aMd_le (A := cA M 16) h1 (by omega)).1; omega⟩
        have hd := (aMd_le (A := cA M 16) h1 (by omega)).1
        rw [hl] at hR hd ⊢
        rw [xm_s]
        simp only [Nat.add_sub_cancel] at hR
        refine x_aload_n hO dX1_openSlot_72 rfl rfl ?_
        refine x_iload_n hO dX1_openSlot_73 rfl rfl ?_
        refine x_iload hO dX1_openSlot_74 rfl ?_
        refine x_callVv hO (k_moveDown U M (l := l) (n := aMd (cA M 16) (l + 1)) (by omega) (by omega)) dX1_openSlot_76 lkX1_94 fX1_moveDown vX1_moveDown (by decide) rfl rfl rfl rfl rfl (by decide) (Nat.le_of_ble_eq_true rfl) (fun M' h5 => ?_)
        refine x_iload_n hO dX1_openSlot_79 rfl rfl ?_
        refine x_iret hO hR dX1_openSlot_80 rfl ?_
        refine ⟨rfl, ?_⟩
        rw [Nat.min_eq_right (by rw [hl] at q2; omega)]
        exact h5
      · have q2 : aMu (cA M 16) (aB (cA M 16) x) ≤ aMd (cA M 16) (aP (cA M 16) x) := Nat.not_lt.mp (fun z => c2 ((nI_ltI (by omega) (by omega)).mpr z))
        simp only [if_pos q2] at hR
        have hu := (aMu_le (A := cA M 16) (f := aB (cA M 16) x) (by omega)).1
        refine x_aload_n hO dX1_openSlot_63 rfl rfl ?_
        refine x_iload_n hO dX1_openSlot_64 rfl rfl ?_
        refine x_iload hO dX1_openSlot_65 rfl ?_
        refine x_callVv hO (k_moveUp U M (b := aB (cA M 16) x) (n := aMu (cA M 16) (aB (cA M 16) x)) (by omega)) dX1_openSlot_67 lkX1_90 fX1_moveUp vX1_moveUp (by decide) rfl rfl rfl rfl rfl (by decide) (Nat.le_of_ble_eq_true rfl) (fun M' h5 => ?_)
        refine x_iload_n hO dX1_openSlot_70 rfl rfl ?_
        refine x_iret hO hR dX1_openSlot_71 rfl ?_
        refine ⟨rfl, ?_⟩
        rw [Nat.min_eq_left q2]
        exact h5
    refine x_icmp_ne (tgt := 56) hO dX1_openSlot_44 (by decide) (fun c1 => ?_) (fun c1 => ?_)
    · exact fin
    · refine x_iload hO dX1_openSlot_47 rfl ?_
      refine x_bipush (v := nI 33) hO dX1_openSlot_49 rfl ?_
      refine x_icmp_ne (tgt := 56) hO dX1_openSlot_51 (by decide) (fun c2 => ?_) (fun c2 => ?_)
      · exact fin
      · have e1 := (nI_eq (by omega) (by decide)).mp c1
        have e2 := (nI_eq (by omega) (by decide)).mp c2
        omega
  · have q : aP (cA M 16) x < aB (cA M 16) x := by
      rcases Nat.lt_or_ge (aP (cA M 16) x) (aB (cA M 16) x) with q | q
      · exact q
      · exact absurd ((xm_gap _ (by omega) _ (by omega)).mpr q) c
    simp only [if_pos q] at hR
    refine x_aload_n hO dX1_openSlot_19 rfl rfl ?_
    refine x_iload_n hO dX1_openSlot_20 rfl rfl ?_
    refine x_iload_n hO dX1_openSlot_21 rfl rfl ?_
    refine x_callV1 hO (k_placeBetween U M h2 q) dX1_openSlot_22 lkX1_81 fX1_placeBetween vX1_placeBetween (by decide) rfl rfl rfl rfl rfl (by decide) (Nat.le_of_ble_eq_true rfl) ?_
    refine x_iret hO hR dX1_openSlot_25 rfl ?_
    refine ⟨rfl, ?_⟩
    have e : upd (M 16) 9 (M 16 9 + nI 0) = M 16 := by
      funext j
      unfold upd
      split
      · rename_i z
        rw [z]
        exact Int32.add_zero _
      · rfl
    rw [e]
    exact mSt.rf M
/-- the rows with a new one of the rank r -/
def aAdd (A : aR) (P r : Int32) (row : Nat → Int32) : aR := fun s => if s = oS A P r then row else oA A r s
theorem k_addSingle (U : xP) (M : xM) (v m k a : Int32) (h : aCnt (cA M 16) < 32) (hr : M 16 8 ≠ -1) : xMetI U mX1_addSingle [.inr 16, .inl v, .inl m, .inl k, .inl a] M (fun r M' => r = M 16 8 ∧ mSt M M' (aAdd (cA M 16) (M 16 7) k (rowOf (M 16 8) 0 m v k a)) (upd (upd (M 16) 8 (M 16 8 + nI 1)) 9 (M 16 9 + nI (oM (cA M 16) k)))) := by
  refine xMetI.of (ty := .int) (L := [some (.inr 16), some (.inl v), some (.inl m), some (.inl k), some (.inl a), none]) fX1_addSingle rfl rfl (Nat.le_of_ble_eq_true rfl) (fun G hN hO hR => ?_)
  have hN : G.2.2.2.2.2.2.2.2.2.2.1 = 6 := hN
  have hO : xOK U G RX1 cX1_addSingle 4 := hO
  refine x_aload_n hO dX1_addSingle_0 rfl rfl ?_
  refine x_getI (T := TX1) (j := 8) hO dX1_addSingle_1 flX1_37 (by decide) rfl rfl (by decide) rfl rfl ?_
  refine x_istore (n := 6) hO dX1_addSingle_4 rfl (by decide) hN ?_
  refine x_aload_n hO dX1_addSingle_6 rfl rfl ?_
  refine x_dup hO dX1_addSingle_7 ?_
  refine x_getI (T := TX1) (j := 8) hO dX1_addSingle_8 flX1_37 (by decide) rfl rfl (by decide) rfl rfl ?_
  refine x_iconst (v := nI 1) hO dX1_addSingle_11 rfl ?_
  refine x_iadd hO dX1_addSingle_12 ?_
  refine x_put (T := TX1) (j := 8) (ty := .int) hO dX1_addSingle_13 flX1_37 (by decide) rfl rfl (by decide) rfl rfl rfl (by decide +kernel) rfl rfl ?_
  refine x_aload_n hO dX1_addSingle_16 rfl rfl ?_
  refine x_aload_n hO dX1_addSingle_17 rfl rfl ?_
  refine x_iload_n hO dX1_addSingle_18 rfl rfl ?_
  have h1 := mSt.num (M := M) 8 (by decide) (M 16 8 + nI 1)
  generalize xset M 16 8 (M 16 8 + nI 1) = M1 at h1 ⊢
  have e9 : M1 16 9 = M 16 9 := by rw [h1.2.1]; rfl
  have e7 : M1 16 7 = M 16 7 := by rw [h1.2.1]; rfl
  refine x_callV hO (k_openSlot U M1 k (by rw [h1.1]; exact h)) dX1_addSingle_19 lkX1_64 fX1_openSlot vX1_openSlot (by decide) rfl rfl rfl rfl rfl (by decide) (Nat.le_of_ble_eq_true rfl) (fun r M' h2 => ?_)
  obtain ⟨rfl, h2⟩ := h2
  have h3 := mSt.tr h1 h2
  rw [h1.1, e7, e9, h1.2.1] at *
  refine x_iload hO dX1_addSingle_22 rfl ?_
  refine x_iconst (v := nI 0) hO dX1_addSingle_24 rfl ?_
  refine x_iload_n hO dX1_addSingle_25 rfl rfl ?_
  refine x_iload_n hO dX1_addSingle_26 rfl rfl ?_
  refine x_iload_n hO dX1_addSingle_27 rfl rfl ?_
  refine x_iload hO dX1_addSingle_28 rfl ?_
  refine x_callVv hO (k_fill U M' (j := oS (cA M 16) (M 16 7) k) (oS_lt _ _ h) (M 16 8) (nI 0) m v k a hr) dX1_addSingle_30 lkX1_67 fX1_fill vX1_fill (by decide) rfl rfl rfl rfl rfl (by decide) (Nat.le_of_ble_eq_true rfl) (fun M' h4 => ?_)
  refine x_iload hO dX1_addSingle_33 rfl ?_
  refine x_iret hO hR dX1_addSingle_35 rfl ?_
  refine ⟨rfl, ?_⟩
  have h5 := mSt.tr h3 h4
  rw [h3.1, h3.2.1] at h5
  exact h5
/-! ===== the small checks of TernaryMatcher ===== -/
theorem k_isBank (U : xP) (M : xM) (x : Int32) : xMetI U mX3_isBank [.inl x] M (fun r M' => r = bI (ixB x 4) ∧ M' = M) := by
  refine xMetI.of (ty := .boolean) (L := [some (.inl x)]) fX3_isBank rfl rfl (Nat.le_of_ble_eq_true rfl) (fun G hN hO hR => ?_)
  have hN : G.2.2.2.2.2.2.2.2.2.2.1 = 1 := hN
  have hO : xOK U G RX3 cX3_isBank 0 := hO
  refine x_iload_n hO dX3_isBank_0 rfl rfl ?_
  refine x_if_lt (tgt := 13) hO dX3_isBank_1 (by decide) (fun c => ?_) (fun c => ?_)
  · refine x_iconst (v := nI 0) hO dX3_isBank_13 rfl ?_
    refine x_iret hO hR dX3_isBank_14 rfl ?_
    exact ⟨bI_f (ixB_lo c), rfl⟩
  · refine x_iload_n hO dX3_isBank_4 rfl rfl ?_
    refine x_iconst (v := nI 4) hO dX3_isBank_5 rfl ?_
    refine x_icmp_ge (tgt := 13) hO dX3_isBank_6 (by decide) (fun c2 => ?_) (fun c2 => ?_)
    · refine x_iconst (v := nI 0) hO dX3_isBank_13 rfl ?_
      refine x_iret hO hR dX3_isBank_14 rfl ?_
      exact ⟨bI_f (ixB_hi c2), rfl⟩
    · refine x_iconst (v := nI 1) hO dX3_isBank_9 rfl ?_
      refine x_goto (tgt := 14) hO dX3_isBank_10 (by decide) ?_
      refine x_iret hO hR dX3_isBank_14 rfl ?_
      exact ⟨bI_t (ixB_in c c2), rfl⟩
theorem k_isKey (U : xP) (M : xM) (x : Int32) : xMetI U mX3_isKey [.inl x] M (fun r M' => r = bI (ixB x 256) ∧ M' = M) := by
  refine xMetI.of (ty := .boolean) (L := [some (.inl x)]) fX3_isKey rfl rfl (Nat.le_of_ble_eq_true rfl) (fun G hN hO hR => ?_)
  have hN : G.2.2.2.2.2.2.2.2.2.2.1 = 1 := hN
  have hO : xOK U G RX3 cX3_isKey 0 := hO
  refine x_iload_n hO dX3_isKey_0 rfl rfl ?_
  refine x_if_lt (tgt := 15) hO dX3_isKey_1 (by decide) (fun c => ?_) (fun c => ?_)
  · refine x_iconst (v := nI 0) hO dX3_isKey_15 rfl ?_
    refine x_iret hO hR dX3_isKey_16 rfl ?_
    exact ⟨bI_f (ixB_lo c), rfl⟩
  · refine x_iload_n hO dX3_isKey_4 rfl rfl ?_
    refine x_sipush (v := nI 256) hO dX3_isKey_5 rfl ?_
    refine x_icmp_ge (tgt := 15) hO dX3_isKey_8 (by decide) (fun c2 => ?_) (fun c2 => ?_)
    · refine x_iconst (v := nI 0) hO dX3_isKey_15 rfl ?_
      refine x_iret hO hR dX3_isKey_16 rfl ?_
      exact ⟨bI_f (ixB_hi c2), rfl⟩
    · refine x_iconst (v := nI 1) hO dX3_isKey_11 rfl ?_
      refine x_goto (tgt := 16) hO dX3_isKey_12 (by decide) ?_
      refine x_iret hO hR dX3_isKey_16 rfl ?_
      exact ⟨bI_t (ixB_in c c2), rfl⟩
theorem k_isRank (U : xP) (M : xM) (x : Int32) : xMetI U mX3_isRank [.inl x] M (fun r M' => r = bI (ixB x 100) ∧ M' = M) := by
  refine xMetI.of (ty := .boolean) (L := [some (.inl x)]) fX3_isRank rfl rfl (Nat.le_of_ble_eq_true rfl) (fun G hN hO hR => ?_)
  have hN : G.2.2.2.2.2.2.2.2.2.2.1 = 1 := hN
  have hO : xOK U G RX3 cX3_isRank 0 := hO
  refine x_iload_n hO dX3_isRank_0 rfl rfl ?_
  refine x_if_lt (tgt := 14) hO dX3_isRank_1 (by decide) (fun c => ?_) (fun c => ?_)
  · refine x_iconst (v := nI 0) hO dX3_isRank_14 rfl ?_
    refine x_iret hO hR dX3_isRank_15 rfl ?_
    exact ⟨bI_f (ixB_lo c), rfl⟩
  · refine x_iload_n hO dX3_isRank_4 rfl rfl ?_
    refine x_bipush (v := nI 100) hO dX3_isRank_5 rfl ?_
    refine x_icmp_ge (tgt := 14) hO dX3_isRank_7 (by decide) (fun c2 => ?_) (fun c2 => ?_)
    · refine x_iconst (v := nI 0) hO dX3_isRank_14 rfl ?_
      refine x_iret hO hR dX3_isRank_15 rfl ?_
      exact ⟨bI_f (ixB_hi c2), rfl⟩
    · refine x_iconst (v := nI 1) hO dX3_isRank_10 rfl ?_
      refine x_goto (tgt := 15) hO dX3_isRank_11 (by decide) ?_
      refine x_iret hO hR dX3_isRank_15 rfl ?_
      exact ⟨bI_t (ixB_in c c2), rfl⟩
theorem k_isAction (U : xP) (M : xM) (x : Int32) : xMetI U mX3_isAction [.inl x] M (fun r M' => r = bI (ixB x 10) ∧ M' = M) := by
  refine xMetI.of (ty := .boolean) (L := [some (.inl x)]) fX3_isAction rfl rfl (Nat.le_of_ble_eq_true rfl) (fun G hN hO hR => ?_)
  have hN : G.2.2.2.2.2.2.2.2.2.2.1 = 1 := hN
  have hO : xOK U G RX3 cX3_isAction 0 := hO
  refine x_iload_n hO dX3_isAction_0 rfl rfl ?_
  refine x_if_lt (tgt := 14) hO dX3_isAction_1 (by decide) (fun c => ?_) (fun c => ?_)
  · refine x_iconst (v := nI 0) hO dX3_isAction_14 rfl ?_
    refine x_iret hO hR dX3_isAction_15 rfl ?_
    exact ⟨bI_f (ixB_lo c), rfl⟩
  · refine x_iload_n hO dX3_isAction_4 rfl rfl ?_
    refine x_bipush (v := nI 10) hO dX3_isAction_5 rfl ?_
    refine x_icmp_ge (tgt := 14) hO dX3_isAction_7 (by decide) (fun c2 => ?_) (fun c2 => ?_)
    · refine x_iconst (v := nI 0) hO dX3_isAction_14 rfl ?_
      refine x_iret hO hR dX3_isAction_15 rfl ?_
      exact ⟨bI_f (ixB_hi c2), rfl⟩
    · refine x_iconst (v := nI 1) hO dX3_isAction_10 rfl ?_
      refine x_goto (tgt := 15) hO dX3_isAction_11 (by decide) ?_
      refine x_iret hO hR dX3_isAction_15 rfl ?_
      exact ⟨bI_t (ixB_in c c2), rfl⟩
def rgB (x y : Int32) : Bool := ixB x 256 && ixB y 256 && decide (x ≤ y)
theorem k_isRange (U : xP) (M : xM) (x y : Int32) : xMetI U mX3_isRange [.inl x, .inl y] M (fun r M' => r = bI (rgB x y) ∧ M' = M) := by
  refine xMetI.of (ty := .boolean) (L := [some (.inl x), some (.inl y)]) fX3_isRange rfl rfl (Nat.le_of_ble_eq_true rfl) (fun G hN hO hR => ?_)
  have hN : G.2.2.2.2.2.2.2.2.2.2.1 = 2 := hN
  have hO : xOK U G RX3 cX3_isRange 1 := hO
  refine x_iload_n hO dX3_isRange_0 rfl rfl ?_
  refine x_callS1 hO (k_isKey U M x) dX3_isRange_1 lkX3_37 fX3_isKey sX3_isKey rfl rfl (by decide) (Nat.le_of_ble_eq_true rfl) ?_
  refine x_if_eq (tgt := 23) hO dX3_isRange_4 (by decide) (fun c => ?_) (fun c => ?_)
  · refine x_iconst (v := nI 0) hO dX3_isRange_23 rfl ?_
    refine x_iret hO hR dX3_isRange_24 rfl ?_
    exact ⟨bI_f (by simp [rgB, bI_0 c]), rfl⟩
  · refine x_iload_n hO dX3_isRange_7 rfl rfl ?_
    refine x_callS1 hO (k_isKey U M y) dX3_isRange_8 lkX3_37 fX3_isKey sX3_isKey rfl rfl (by decide) (Nat.le_of_ble_eq_true rfl) ?_
    refine x_if_eq (tgt := 23) hO dX3_isRange_11 (by decide) (fun c2 => ?_) (fun c2 => ?_)
    · refine x_iconst (v := nI 0) hO dX3_isRange_23 rfl ?_
      refine x_iret hO hR dX3_isRange_24 rfl ?_
      exact ⟨bI_f (by simp [rgB, bI_0 c2]), rfl⟩
    · refine x_iload_n hO dX3_isRange_14 rfl rfl ?_
      refine x_iload_n hO dX3_isRange_15 rfl rfl ?_
      refine x_icmp_gt (tgt := 23) hO dX3_isRange_16 (by decide) (fun c3 => ?_) (fun c3 => ?_)
      · refine x_iconst (v := nI 0) hO dX3_isRange_23 rfl ?_
        refine x_iret hO hR dX3_isRange_24 rfl ?_
        exact ⟨bI_f (by simp [rgB, Int32.not_le.mpr c3]), rfl⟩
      · refine x_iconst (v := nI 1) hO dX3_isRange_19 rfl ?_
        refine x_goto (tgt := 24) hO dX3_isRange_20 (by decide) ?_
        refine x_iret hO hR dX3_isRange_24 rfl ?_
        exact ⟨bI_t (by simp [rgB, bI_1 c, bI_1 c2, Int32.not_lt.mp c3]), rfl⟩
/-- the sort of a mask -/
def aSo (m : Int32) : Int32 := if m = nI 255 then nI 0 else if (nI 255 - m) &&& ((nI 255 - m) + nI 1) = 0 then nI 1 else nI 2
theorem k_sortOfMask (U : xP) (M : xM) (x : Int32) : xMetI U mX3_sortOfMask [.inl x] M (fun r M' => r = aSo x ∧ M' = M) := by
  refine xMetI.of (ty := .int) (L := [some (.inl x), none]) fX3_sortOfMask rfl rfl (Nat.le_of_ble_eq_true rfl) (fun G hN hO hR => ?_)
  have hN : G.2.2.2.2.2.2.2.2.2.2.1 = 2 := hN
  have hO : xOK U G RX3 cX3_sortOfMask 0 := hO
  unfold aSo at hR
  refine x_iload_n hO dX3_sortOfMask_0 rfl rfl ?_
  refine x_sipush (v := nI 255) hO dX3_sortOfMask_1 rfl ?_
  refine x_icmp_ne (tgt := 9) hO dX3_sortOfMask_4 (by decide) (fun c => ?_) (fun c => ?_)
  · rw [if_neg c] at hR
    refine x_sipush (v := nI 255) hO dX3_sortOfMask_9 rfl ?_
    refine x_iload_n hO dX3_sortOfMask_12 rfl rfl ?_
    refine x_isub hO dX3_sortOfMask_13 ?_
    refine x_istore_n (n := 2) hO dX3_sortOfMask_14 rfl rfl (by decide) hN ?_
    refine x_iload_n hO dX3_sortOfMask_15 rfl rfl ?_
    refine x_iload_n hO dX3_sortOfMask_16 rfl rfl ?_
    refine x_iconst (v := nI 1) hO dX3_sortOfMask_17 rfl ?_
    refine x_iadd hO dX3_sortOfMask_18 ?_
    refine x_iand hO dX3_sortOfMask_19 ?_
    refine x_if_ne (tgt := 27) hO dX3_sortOfMask_20 (by decide) (fun c2 => ?_) (fun c2 => ?_)
    · rw [if_neg c2] at hR
      refine x_iconst (v := nI 2) hO dX3_sortOfMask_27 rfl ?_
      refine x_iret hO hR dX3_sortOfMask_28 rfl ?_
      exact ⟨rfl, rfl⟩
    · rw [if_pos c2] at hR
      refine x_iconst (v := nI 1) hO dX3_sortOfMask_23 rfl ?_
      refine x_goto (tgt := 28) hO dX3_sortOfMask_24 (by decide) ?_
      refine x_iret hO hR dX3_sortOfMask_28 rfl ?_
      exact ⟨rfl, rfl⟩
  · rw [if_pos c] at hR
    refine x_iconst (v := nI 0) hO dX3_sortOfMask_7 rfl ?_
    refine x_iret hO hR dX3_sortOfMask_8 rfl ?_
    exact ⟨rfl, rfl⟩
/-! ===== blocks ===== -/
/-- the size of a block that begins with f and has s keys already, at most d times twice as many -/
def bsz (f h : Nat) : Nat → Nat → Nat
  | s, 0 => s
  | s, d + 1 => if f % (2 * s) = 0 ∧ f + 2 * s - 1 ≤ h then bsz f h (2 * s) d else s
def bS (f h : Nat) : Nat := bsz f h 1 8
theorem bsz_le (f h : Nat) : ∀ d s, s ≤ bsz f h s d ∧ bsz f h s d ≤ s * 2 ^ d
  | 0, s => by simp [bsz]
  | d + 1, s => by
    have := bsz_le f h d (2 * s)
    have e : s * 2 ^ (d + 1) = 2 * s * 2 ^ d := by rw [Nat.pow_succ]; ac_rfl
    have e2 : s ≤ s * 2 ^ (d + 1) := Nat.le_mul_of_pos_right _ (Nat.pow_pos (by decide))
    simp only [bsz]
    split <;> omega
theorem bS_le (f h : Nat) : 1 ≤ bS f h ∧ bS f h ≤ 256 := bsz_le f h 8 1
theorem pow_lt31 {k : Nat} (h : k ≤ 9) : 2 ^ k ≤ 512 := Nat.pow_le_pow_right (n := 2) (by decide) h
theorem k_blockSize (U : xP) (M : xM) {f h : Nat} (hf : f < 512) (hh : h < 256) : xMetI U mX3_blockSize [.inl (nI f), .inl (nI h)] M (fun r M' => r = nI (bS f h) ∧ M' = M) := by
  refine xMetI.of (ty := .int) (L := [some (.inl (nI f)), some (.inl (nI h)), none, none]) fX3_blockSize rfl rfl (Nat.le_of_ble_eq_true rfl) (fun G hN hO hR => ?_)
  have hN : G.2.2.2.2.2.2.2.2.2.2.1 = 4 := hN
  have hO : xOK U G RX3 cX3_blockSize 0 := hO
  generalize hg : bS f h = g at hR
  refine x_iconst (v := nI 1) hO dX3_blockSize_0 rfl ?_
  refine x_istore_n (n := 4) hO dX3_blockSize_1 rfl rfl (by decide) hN ?_
  refine x_iconst (v := nI 2) hO dX3_blockSize_2 rfl ?_
  refine x_istore_n (n := 4) hO dX3_blockSize_3 rfl rfl (by decide) hN ?_
  refine upd_ind (P := fun k d => bsz f h (2 ^ k) d = g → XW U G 4 [some (.inl (nI f)), some (.inl (nI h)), some (.inl (nI (2 ^ k))), some (.inl (nI (2 ^ k * 2)))] [] M) 8 ?_ ?_ 8 0 rfl hg
  · intro hg
    refine x_iload_n hO dX3_blockSize_4 rfl rfl ?_
    refine x_sipush (v := nI 256) hO dX3_blockSize_5 rfl ?_
    refine x_icmp_gt (tgt := 39) hO dX3_blockSize_8 (by decide) (fun c => ?_) (fun c => ?_)
    · refine x_iload_n hO dX3_blockSize_39 rfl rfl ?_
      refine x_iret hO hR dX3_blockSize_40 rfl ?_
      exact ⟨by rw [← hg]; rfl, rfl⟩
    · exact absurd (nI_lt (by decide) (by decide)) c
  · intro k d hd ih hg
    have hk := pow_lt31 (k := k + 1) (by omega)
    have hk0 : 0 < 2 ^ k := Nat.pow_pos (by decide)
    have hk2 : 2 ^ (k + 1) = 2 ^ k * 2 := Nat.pow_succ ..
    have hk8 : 2 ^ (k + 1) ≤ 256 := by have := Nat.pow_le_pow_right (n := 2) (by decide) (show k + 1 ≤ 8 by omega); omega
    simp only [bsz] at hg
    refine x_iload_n hO dX3_blockSize_4 rfl rfl ?_
    refine x_sipush (v := nI 256) hO dX3_blockSize_5 rfl ?_
    refine x_icmp_gt (tgt := 39) hO dX3_blockSize_8 (by decide) (fun c => ?_) (fun c => ?_)
    · exact absurd c (nI_nlt (by omega) (by omega))
    · refine x_iload_n hO dX3_blockSize_11 rfl rfl ?_
      refine x_iload_n hO dX3_blockSize_12 rfl rfl ?_
      refine x_iconst (v := nI 1) hO dX3_blockSize_13 rfl ?_
      refine x_isub hO dX3_blockSize_14 ?_
      rw [pk_sub (by omega)]
      refine x_iand hO dX3_blockSize_15 ?_
      rw [pk_andN (by omega) (k + 1) (by rw [pk_tn (by omega)]; omega)]
      have em : f % 2 ^ (k + 1) < 512 := by have := Nat.mod_lt f (show 0 < 2 ^ (k + 1) by omega); omega
      rw [hk2] at em ⊢
      rw [show 2 * 2 ^ k = 2 ^ k * 2 from Nat.mul_comm ..] at hg
      refine x_if_ne (tgt := 28) hO dX3_blockSize_16 (by decide) (fun c2 => ?_) (fun c2 => ?_)
      · refine x_iload_n hO dX3_blockSize_28 rfl rfl ?_
        refine x_iret hO hR dX3_blockSize_29 rfl ?_
        exact ⟨by rw [← hg, if_neg (fun z => c2 (by rw [z.1]; rfl))], rfl⟩
      · have q : f % (2 ^ k * 2) = 0 := (nI_eq (b := 0) (by omega) (by decide)).mp c2
        refine x_iload_n hO dX3_blockSize_19 rfl rfl ?_
        refine x_iload_n hO dX3_blockSize_20 rfl rfl ?_
        refine x_iadd hO dX3_blockSize_21 ?_
        rw [nI_add]
        refine x_iconst (v := nI 1) hO dX3_blockSize_22 rfl ?_
        refine x_isub hO dX3_blockSize_23 ?_
        rw [pk_sub (by omega)]
        refine x_iload_n hO dX3_blockSize_24 rfl rfl ?_
        refine x_icmp_le (tgt := 30) hO dX3_blockSize_25 (by decide) (fun c3 => ?_) (fun c3 => ?_)
        · have q3 : f + 2 ^ k * 2 - 1 ≤ h := (nI_leI (by omega) (by omega)).mp c3
          rw [if_pos ⟨q, q3⟩] at hg
          refine x_iload_n hO dX3_blockSize_30 rfl rfl ?_
          refine x_istore_n (n := 4) hO dX3_blockSize_31 rfl rfl (by decide) hN ?_
          refine x_iload_n hO dX3_blockSize_32 rfl rfl ?_
          refine x_iconst (v := nI 2) hO dX3_blockSize_33 rfl ?_
          refine x_imul hO dX3_blockSize_34 ?_
          rw [pk_mul]
          refine x_istore_n (n := 4) hO dX3_blockSize_35 rfl rfl (by decide) hN ?_
          refine x_goto (tgt := 4) hO dX3_blockSize_36 (by decide) ?_
          rw [hk2] at ih
          exact ih hg
        · have q3 : ¬ f + 2 ^ k * 2 - 1 ≤ h := fun z => c3 ((nI_leI (by omega) (by omega)).mpr z)
          refine x_iload_n hO dX3_blockSize_28 rfl rfl ?_
          refine x_iret hO hR dX3_blockSize_29 rfl ?_
          exact ⟨by rw [← hg, if_neg (fun z => q3 z.2)], rfl⟩
/-- how many blocks from f to h, at most d -/
def bCn (h : Nat) : Nat → Nat → Nat
  | _, 0 => 0
  | f, d + 1 => if h < f then 0 else bCn h (f + bS f h) d + 1
/-- the place of the first key behind k blocks from f on -/
theorem bsz_fit (f h : Nat) : ∀ d s, f + s - 1 ≤ h → f + bsz f h s d - 1 ≤ h
  | 0, s, q => q
  | d + 1, s, q => by
    simp only [bsz]
    split
    · rename_i z
      exact bsz_fit f h d (2 * s) z.2
    · exact q
theorem bS_fit {f h : Nat} (q : f ≤ h) : f + bS f h ≤ h + 1 := by
  have := bsz_fit f h 8 1 (by omega)
  have := (bS_le f h).1
  unfold bS at *
  omega
theorem k_blocksOf (U : xP) (M : xM) {f h : Nat} (hf : f < 256) (hh : h < 256) : xMetI U mX3_blocksOf [.inl (nI f), .inl (nI h)] M (fun r M' => r = nI (bCn h f 14) ∧ M' = M) := by
  refine xMetI.of (ty := .int) (L := [some (.inl (nI f)), some (.inl (nI h)), none, none]) fX3_blocksOf rfl rfl (Nat.le_of_ble_eq_true rfl) (fun G hN hO hR => ?_)
  have hN : G.2.2.2.2.2.2.2.2.2.2.1 = 4 := hN
  have hO : xOK U G RX3 cX3_blocksOf 1 := hO
  generalize hg : bCn h f 14 = g at hR
  refine x_iload_n hO dX3_blocksOf_0 rfl rfl ?_
  refine x_istore_n (n := 4) hO dX3_blocksOf_1 rfl rfl (by decide) hN ?_
  refine x_iconst (v := nI 0) hO dX3_blocksOf_2 rfl ?_
  refine x_istore_n (n := 4) hO dX3_blocksOf_3 rfl rfl (by decide) hN ?_
  refine upd_ind (P := fun i d => ∀ f1, f1 ≤ 256 → i + bCn h f1 d = g → XW U G 4 [some (.inl (nI f)), some (.inl (nI h)), some (.inl (nI f1)), some (.inl (nI i))] [] M) 14 ?_ ?_ 14 0 rfl f (by omega) (by omega)
  · intro f1 hf1 hg
    refine x_iload_n hO dX3_blocksOf_4 rfl rfl ?_
    refine x_bipush (v := nI 14) hO dX3_blocksOf_5 rfl ?_
    refine x_icmp_ge (tgt := 31) hO dX3_blocksOf_7 (by decide) (fun c => ?_) (fun c => ?_)
    · refine x_bipush (v := nI 14) hO dX3_blocksOf_31 rfl ?_
      refine x_iret hO hR dX3_blocksOf_33 rfl ?_
      exact ⟨by rw [← hg]; rfl, rfl⟩
    · exact absurd (Int32.le_refl _) c
  · intro i d hd ih f1 hf1 hg
    simp only [bCn] at hg
    refine x_iload_n hO dX3_blocksOf_4 rfl rfl ?_
    refine x_bipush (v := nI 14) hO dX3_blocksOf_5 rfl ?_
    refine x_icmp_ge (tgt := 31) hO dX3_blocksOf_7 (by decide) (fun c => ?_) (fun c => ?_)
    · exact absurd c (nI_ge (by omega) (by decide))
    · refine x_iload_n hO dX3_blocksOf_10 rfl rfl ?_
      refine x_iload_n hO dX3_blocksOf_11 rfl rfl ?_
      refine x_icmp_le (tgt := 17) hO dX3_blocksOf_12 (by decide) (fun c2 => ?_) (fun c2 => ?_)
      · have q : f1 ≤ h := (nI_leI (by omega) (by omega)).mp c2
        have q2 := bS_fit q
        rw [if_neg (by omega)] at hg
        refine x_iload_n hO dX3_blocksOf_17 rfl rfl ?_
        refine x_iload_n hO dX3_blocksOf_18 rfl rfl ?_
        refine x_iload_n hO dX3_blocksOf_19 rfl rfl ?_
        refine x_callS1 hO (k_blockSize U M (f := f1) (h := h) (by omega) hh) dX3_blocksOf_20 lkX3_207 fX3_blockSize sX3_blockSize rfl rfl (by decide) (Nat.le_of_ble_eq_true rfl) ?_
        refine x_iadd hO dX3_blocksOf_23 ?_
        rw [nI_add]
        refine x_istore_n (n := 4) hO dX3_blocksOf_24 rfl rfl (by decide) hN ?_
        refine x_iinc hO dX3_blocksOf_25 rfl (by first | exact xinc_n _ | rfl) rfl hN ?_
        refine x_goto (tgt := 4) hO dX3_blocksOf_28 (by decide) ?_
        exact ih _ (by omega) (by omega)
      · have q : ¬ f1 ≤ h := fun z => c2 ((nI_leI (by omega) (by omega)).mpr z)
        rw [if_pos (by omega)] at hg
        refine x_iload_n hO dX3_blocksOf_15 rfl rfl ?_
        refine x_iret hO hR dX3_blocksOf_16 rfl ?_
        exact ⟨by rw [← hg]; rfl, rfl⟩
end
section
/-! ===== Memory.addBlocks ===== -/
theorem nC_ins {P Q : Nat → Bool} {t : Nat} (ht : P t = false) : ∀ {n : Nat}, t < n → (∀ s, s < n → Q s = (P s || s == t)) → nC Q n = nC P n + 1
  | 0, h, _ => by omega
  | n + 1, h, hq => by
    rcases Nat.lt_or_ge t n with q | q
    · have := nC_ins ht q (fun s hs => hq s (by omega))
      have e : Q n = P n := by rw [hq n (by omega), beq_false_of_ne (by omega : n ≠ t), Bool.or_false]
      simp only [nC, this, e]
      omega
    · obtain rfl : t = n := by omega
      have e : nC Q t = nC P t := nC_congr (fun s hs => by rw [hq s (by omega), beq_false_of_ne (by omega : s ≠ t), Bool.or_false])
      rw [nC_f ht, nC_t (by rw [hq t (by omega)]; simp), e]
theorem aGap {A : aR} {r : Int32} {s : Nat} (h1 : aP A r ≤ s) (h2 : s < aB A r) : aoc A s = false := by
  have b := aB_le A r
  have e1 := nL_no (P := pUp A r) h1 (by omega)
  have e2 := nF_no (P := pBy A r) 32 0 s (by omega) h2
  unfold pUp at e1
  unfold pBy at e2
  cases e : aoc A s with
  | false => rfl
  | true =>
    rw [e] at e1 e2
    simp at e1 e2
    exact absurd e1 (Int32.not_lt.mpr e2)
/-- a new row takes one free slot more -/
theorem aAdd_oc {A : aR} (P r : Int32) {row : Nat → Int32} (h : aCnt A < 32) (hr : row 0 ≠ -1) : ∃ t, t < 32 ∧ aoc A t = false ∧ ∀ s, s < 32 → aoc (aAdd A P r row) s = (aoc A s || s == t) := by
  have h1 := aP_le A r
  have h2 := aB_le A r
  have hrow : ∀ (B : aR) (s : Nat), B s = row → aoc B s = true := fun B s e => by unfold aoc; rw [e]; simpa using hr
  have hcop : ∀ (B : aR) (s t : Nat), B s = A t → aoc B s = aoc A t := fun B s t e => by unfold aoc; rw [e]
  rcases Nat.lt_or_ge (aP A r) (aB A r) with q | q
  · have hs := aPl_lt (P := P) h2 q
    refine ⟨aPl P (aP A r) (aB A r), by omega, aGap hs.1 hs.2, fun s _ => ?_⟩
    have e : oS A P r = aPl P (aP A r) (aB A r) := by unfold oS; rw [if_pos q]
    have e2 : oA A r = A := by unfold oA; rw [if_pos q]
    by_cases z : s = aPl P (aP A r) (aB A r)
    · rw [hrow _ s (by unfold aAdd; rw [e, if_pos z]), beq_iff_eq.mpr z, Bool.or_true]
    · rw [hcop _ s s (by unfold aAdd; rw [e, if_neg z, e2]), beq_false_of_ne z, Bool.or_false]
  · have h3 := oM_free h h1 q
    have u3 := aMu_33 A (aB A r)
    have d3 := aMd_33 A h1
    have nq : ¬ aP A r < aB A r := by omega
    by_cases q2 : aMu A (aB A r) ≤ aMd A (aP A r)
    · obtain ⟨a1, a2, a3⟩ := aMu_le (A := A) (f := aB A r) (by omega)
      have e : oS A P r = aB A r := by unfold oS; rw [if_neg nq, if_pos q2]
      have e2 : oA A r = aUp A (aB A r) (aMu A (aB A r)) 0 := by unfold oA; rw [if_neg nq, if_pos q2]
      generalize aMu A (aB A r) = n at *
      generalize aB A r = b at *
      refine ⟨b + n, a1, a2, fun s _ => ?_⟩
      by_cases z : s = b
      · rw [hrow _ s (by unfold aAdd; rw [e, if_pos z])]
        by_cases z2 : n = 0
        · rw [beq_iff_eq.mpr (by omega), Bool.or_true]
        · rw [a3 s (by omega) (by omega), Bool.true_or]
      · by_cases z2 : b < s ∧ s ≤ b + n
        · rw [hcop _ s (s - 1) (by unfold aAdd; rw [e, if_neg z, e2]; unfold aUp; rw [if_pos (by omega)])]
          rw [a3 (s - 1) (by omega) (by omega)]
          by_cases z3 : s = b + n
          · rw [beq_iff_eq.mpr z3, Bool.or_true]
          · rw [a3 s (by omega) (by omega), Bool.true_or]
        · rw [hcop _ s s (by unfold aAdd; rw [e, if_neg z, e2]; unfold aUp; rw [if_neg (by omega), if_neg (by omega)]), beq_false_of_ne (by omega : s ≠ b + n), Bool.or_false]
    · obtain ⟨a1, a2, a3⟩ := aMd_le (A := A) h1 (by omega)
      have e : oS A P r = aP A r - 1 := by unfold oS; rw [if_neg nq, if_neg q2]
      have e2 : oA A r = aDn A (aP A r - 1) (aMd A (aP A r)) (aMd A (aP A r)) := by unfold oA; rw [if_neg nq, if_neg q2]
      generalize aMd A (aP A r) = n at *
      generalize aP A r = p at *
      refine ⟨p - 1 - n, by omega, a2, fun s _ => ?_⟩
      by_cases z : s = p - 1
      · rw [hrow _ s (by unfold aAdd; rw [e, if_pos z])]
        by_cases z2 : n = 0
        · rw [beq_iff_eq.mpr (by omega), Bool.or_true]
        · rw [a3 s (by omega) (by omega), Bool.true_or]
      · by_cases z2 : p - 1 - n ≤ s ∧ s < p - 1
        · rw [hcop _ s (s + 1) (by unfold aAdd; rw [e, if_neg z, e2]; unfold aDn; rw [if_pos (by omega)])]
          rw [a3 (s + 1) (by omega) (by omega)]
          by_cases z3 : s = p - 1 - n
          · rw [beq_iff_eq.mpr z3, Bool.or_true]
          · rw [a3 s (by omega) (by omega), Bool.true_or]
        · rw [hcop _ s s (by unfold aAdd; rw [e, if_neg z, e2]; unfold aDn; rw [if_neg (by omega), if_neg (by omega)]), beq_false_of_ne (by omega : s ≠ p - 1 - n), Bool.or_false]
theorem aCnt_add {A : aR} (P r : Int32) {row : Nat → Int32} (h : aCnt A < 32) (hr : row 0 ≠ -1) : aCnt (aAdd A P r row) = aCnt A + 1 := by
  obtain ⟨t, h1, h2, h3⟩ := aAdd_oc P r h hr
  exact nC_ins h2 h1 h3
/-- the blocks from f to h, the next part's number part, one by one: the rows, and the moves -/
def aBlk (P k a rule : Int32) (h : Nat) : Nat → Nat → Nat → aR × Int32 → aR × Int32
  | 0, _, _, x => x
  | d + 1, part, f, x => if h < f then x else aBlk P k a rule h d (part + 1) (f + bS f h) (aAdd x.1 P k (rowOf rule (nI part) (nI (256 - bS f h)) (nI f) k a), x.2 + nI (oM x.1 k))
theorem k_addBlocks (U : xP) (M : xM) {lo h : Nat} (hlo : lo < 256) (hh : h < 256) (k a : Int32) (hc : aCnt (cA M 16) + bCn h lo 14 ≤ 32) (hr : M 16 8 ≠ -1) : xMetI U mX1_addBlocks [.inr 16, .inl (nI lo), .inl (nI h), .inl k, .inl a] M (fun r M' => r = M 16 8 ∧ mSt M M' (aBlk (M 16 7) k a (M 16 8) h 14 0 lo (cA M 16, M 16 9)).1 (upd (upd (M 16) 8 (M 16 8 + nI 1)) 9 (aBlk (M 16 7) k a (M 16 8) h 14 0 lo (cA M 16, M 16 9)).2)) := by
  refine xMetI.of (ty := .int) (L := [some (.inr 16), some (.inl (nI lo)), some (.inl (nI h)), some (.inl k), some (.inl a), none, none, none, none]) fX1_addBlocks rfl rfl (Nat.le_of_ble_eq_true rfl) (fun G hN hO hR => ?_)
  have hN : G.2.2.2.2.2.2.2.2.2.2.1 = 9 := hN
  have hO : xOK U G RX1 cX1_addBlocks 4 := hO
  generalize hg : aBlk (M 16 7) k a (M 16 8) h 14 0 lo (cA M 16, M 16 9) = g at hR
  refine x_aload_n hO dX1_addBlocks_0 rfl rfl ?_
  refine x_getI (T := TX1) (j := 8) hO dX1_addBlocks_1 flX1_37 (by decide) rfl rfl (by decide) rfl rfl ?_
  refine x_istore (n := 9) hO dX1_addBlocks_4 rfl (by decide) hN ?_
  refine x_aload_n hO dX1_addBlocks_6 rfl rfl ?_
  refine x_dup hO dX1_addBlocks_7 ?_
  refine x_getI (T := TX1) (j := 8) hO dX1_addBlocks_8 flX1_37 (by decide) rfl rfl (by decide) rfl rfl ?_
  refine x_iconst (v := nI 1) hO dX1_addBlocks_11 rfl ?_
  refine x_iadd hO dX1_addBlocks_12 ?_
  refine x_put (T := TX1) (j := 8) (ty := .int) hO dX1_addBlocks_13 flX1_37 (by decide) rfl rfl (by decide) rfl rfl rfl (by decide +kernel) rfl rfl ?_
  refine x_iload_n hO dX1_addBlocks_16 rfl rfl ?_
  refine x_istore (n := 9) hO dX1_addBlocks_17 rfl (by decide) hN ?_
  refine x_iconst (v := nI 0) hO dX1_addBlocks_19 rfl ?_
  refine x_istore (n := 9) hO dX1_addBlocks_20 rfl (by decide) hN ?_
  have h1 := mSt.num (M := M) 8 (by decide) (M 16 8 + nI 1)
  generalize xset M 16 8 (M 16 8 + nI 1) = M1 at h1 ⊢
  have h0 : upd (M 16) 8 (M 16 8 + nI 1) = upd (upd (M 16) 8 (M 16 8 + nI 1)) 9 (M 16 9) := by
    funext j
    unfold upd
    by_cases e : j = 9
    · simp [e]
    · simp [e]
  rw [h0] at h1
  refine upd_ind (P := fun i d => ∀ (f : Nat) (o : Option xV) (A1 : aR) (mv : Int32) (M1 : xM), f ≤ 256 → aCnt A1 + bCn h f d ≤ 32 → mSt M M1 A1 (upd (upd (M 16) 8 (M 16 8 + nI 1)) 9 mv) → aBlk (M 16 7) k a (M 16 8) h d i f (A1, mv) = g → XW U G 22 [some (.inr 16), some (.inl (nI lo)), some (.inl (nI h)), some (.inl k), some (.inl a), some (.inl (M 16 8)), some (.inl (nI f)), some (.inl (nI i)), o] [] M1) 14 ?_ ?_ 14 0 rfl lo _ (cA M 16) (M 16 9) M1 (by omega) hc h1 hg
  · intro f o A1 mv M1 hf _ h1 hg
    refine x_iload hO dX1_addBlocks_22 rfl ?_
    refine x_bipush (v := nI 14) hO dX1_addBlocks_24 rfl ?_
    refine x_icmp_ge (tgt := 80) hO dX1_addBlocks_26 (by decide) (fun c => ?_) (fun c => ?_)
    · refine x_iload hO dX1_addBlocks_80 rfl ?_
      refine x_iret hO hR dX1_addBlocks_82 rfl ?_
      simp only [aBlk] at hg
      rw [← hg]
      exact ⟨rfl, h1⟩
    · exact absurd (Int32.le_refl _) c
  · intro i d hd ih f o A1 mv M1 hf hc1 h1 hg
    have e7 : M1 16 7 = M 16 7 := by rw [h1.2.1]; rfl
    have e9 : M1 16 9 = mv := by rw [h1.2.1]; rfl
    simp only [aBlk] at hg
    simp only [bCn] at hc1
    refine x_iload hO dX1_addBlocks_22 rfl ?_
    refine x_bipush (v := nI 14) hO dX1_addBlocks_24 rfl ?_
    refine x_icmp_ge (tgt := 80) hO dX1_addBlocks_26 (by decide) (fun c => ?_) (fun c => ?_)
    · exact absurd c (nI_ge (by omega) (by decide))
    · refine x_iload hO dX1_addBlocks_29 rfl ?_
      refine x_iload_n hO dX1_addBlocks_31 rfl rfl ?_
      refine x_icmp_gt (tgt := 80) hO dX1_addBlocks_32 (by decide) (fun c2 => ?_) (fun c2 => ?_)
      · have q : h < f := (nI_ltI (by omega) (by omega)).mp c2
        rw [if_pos q] at hg
        refine x_iload hO dX1_addBlocks_80 rfl ?_
        refine x_iret hO hR dX1_addBlocks_82 rfl ?_
        rw [← hg]
        exact ⟨rfl, h1⟩
      · have q : ¬ h < f := fun z => c2 ((nI_ltI (by omega) (by omega)).mpr z)
        have q2 := bS_fit (f := f) (h := h) (by omega)
        have q3 := bS_le f h
        rw [if_neg q] at hg hc1
        refine x_iload hO dX1_addBlocks_35 rfl ?_
        refine x_iload_n hO dX1_addBlocks_37 rfl rfl ?_
        refine x_callSN1 hO (k_blockSize U M1 (f := f) (h := h) (by omega) hh) dX1_addBlocks_38 lkX1_71 fX3_blockSize sX3_blockSize rfl rfl (by decide) (Nat.le_of_ble_eq_true rfl) ?_
        refine x_istore (n := 9) hO dX1_addBlocks_41 rfl (by decide) hN ?_
        refine x_aload_n hO dX1_addBlocks_43 rfl rfl ?_
        refine x_aload_n hO dX1_addBlocks_44 rfl rfl ?_
        refine x_iload_n hO dX1_addBlocks_45 rfl rfl ?_
        refine x_callV hO (k_openSlot U M1 k (by rw [h1.1]; omega)) dX1_addBlocks_46 lkX1_64 fX1_openSlot vX1_openSlot (by decide) rfl rfl rfl rfl rfl (by decide) (Nat.le_of_ble_eq_true rfl) (fun r M' h2 => ?_)
        obtain ⟨rfl, h2⟩ := h2
        have h3 := mSt.tr h1 h2
        rw [h1.1, e9, h1.2.1] at h3
        rw [h1.1, e7]
        refine x_iload hO dX1_addBlocks_49 rfl ?_
        refine x_iload hO dX1_addBlocks_51 rfl ?_
        refine x_sipush (v := nI 256) hO dX1_addBlocks_53 rfl ?_
        refine x_iload hO dX1_addBlocks_56 rfl ?_
        refine x_isub hO dX1_addBlocks_58 ?_
        rw [pk_sub (by omega)]
        refine x_iload hO dX1_addBlocks_59 rfl ?_
        refine x_iload_n hO dX1_addBlocks_61 rfl rfl ?_
        refine x_iload hO dX1_addBlocks_62 rfl ?_
        refine x_callVv hO (k_fill U M' (j := oS A1 (M 16 7) k) (oS_lt _ _ (by omega)) (M 16 8) (nI i) (nI (256 - bS f h)) (nI f) k a hr) dX1_addBlocks_64 lkX1_67 fX1_fill vX1_fill (by decide) rfl rfl rfl rfl rfl (by decide) (Nat.le_of_ble_eq_true rfl) (fun M' h4 => ?_)
        have h5 := mSt.tr h3 h4
        rw [h3.1, h3.2.1] at h5
        have e : upd (upd (upd (M 16) 8 (M 16 8 + nI 1)) 9 mv) 9 (mv + nI (oM A1 k)) = upd (upd (M 16) 8 (M 16 8 + nI 1)) 9 (mv + nI (oM A1 k)) := by
          funext j
          unfold upd
          split <;> rfl
        rw [e] at h5
        have h5 : mSt M M' (aAdd A1 (M 16 7) k (rowOf (M 16 8) (nI i) (nI (256 - bS f h)) (nI f) k a)) (upd (upd (M 16) 8 (M 16 8 + nI 1)) 9 (mv + nI (oM A1 k))) := h5
        have hn : aCnt (aAdd A1 (M 16 7) k (rowOf (M 16 8) (nI i) (nI (256 - bS f h)) (nI f) k a)) = aCnt A1 + 1 := aCnt_add _ _ (by omega) hr
        refine x_iload hO dX1_addBlocks_67 rfl ?_
        refine x_iload hO dX1_addBlocks_69 rfl ?_
        refine x_iadd hO dX1_addBlocks_71 ?_
        rw [nI_add]
        refine x_istore (n := 9) hO dX1_addBlocks_72 rfl (by decide) hN ?_
        refine x_iinc hO dX1_addBlocks_74 rfl (by first | exact xinc_n _ | rfl) rfl hN ?_
        refine x_goto (tgt := 22) hO dX1_addBlocks_77 (by decide) ?_
        exact ih (f + bS f h) _ _ _ _ (by omega) (by omega) h5 hg
/-! ===== Memory.moveToFront, moveIntoShares ===== -/
/-- the slot of the entry with the place c in the order -/
def kth (A : aR) (c : Nat) : Nat := nF (fun s => aoc A s && (nC (aoc A) s == c)) 0 32
theorem nC_mono {P : Nat → Bool} : ∀ {a b : Nat}, a ≤ b → nC P a ≤ nC P b
  | a, 0, h => by obtain rfl : a = 0 := (by omega); exact Nat.le_refl _
  | a, b + 1, h => by
    rcases Nat.lt_or_ge b a with q | q
    · obtain rfl : a = b + 1 := (by omega)
      exact Nat.le_refl _
    · have := nC_mono (P := P) q
      simp only [nC]
      omega
theorem kth_at {A : aR} {s : Nat} (hs : s < 32) (h : aoc A s = true) : kth A (nC (aoc A) s) = s := by
  refine nF_eq (Nat.zero_le _) (by omega) (fun j _ hj => ?_) (fun _ => by simp [h])
  cases e : aoc A j with
  | false => rfl
  | true =>
    have h1 := nC_mono (P := aoc A) (a := j + 1) (b := s) (by omega)
    rw [nC_t e] at h1
    simp
    omega
/-- the rows when the first i slots' entries have gone to the front -/
def aFr (A : aR) (i : Nat) : aR := fun s => if s < nC (aoc A) i then A (kth A s) else if s < i then eR else A s
theorem aFr_0 (A : aR) : aFr A 0 = A := by
  funext s
  simp [aFr, nC]
theorem aFr_f {A : aR} {i : Nat} (h : aoc A i = false) (he : A i = eR) : aFr A (i + 1) = aFr A i := by
  funext s
  unfold aFr
  rw [nC_f h]
  by_cases q : s = i
  · subst q
    have z := nC_le (aoc A) s
    simp [Nat.not_lt.mpr z, he]
  · have : s < i + 1 ↔ s < i := by omega
    simp only [this]
theorem aFr_t {A : aR} {i : Nat} (hi : i < 32) (h : aoc A i = true) : aMv (aFr A i) i (nC (aoc A) i) = aFr A (i + 1) := by
  have hc := nC_le (aoc A) i
  have hk := kth_at hi h
  funext s
  unfold aMv aFr
  rw [nC_t h]
  generalize nC (aoc A) i = c at *
  by_cases q : i = c
  · rw [if_pos q]
    by_cases q2 : s = c
    · rw [if_neg (by omega), if_neg (by omega), if_pos (by omega), q2, hk, q]
    · by_cases q3 : s < c
      · rw [if_pos q3, if_pos (by omega)]
      · rw [if_neg q3, if_neg (by omega), if_neg (by omega), if_neg (by omega)]
  · rw [if_neg q]
    by_cases q2 : s = i
    · rw [if_pos q2, if_neg (by omega), if_pos (by omega)]
    · rw [if_neg q2]
      by_cases q3 : s = c
      · rw [if_pos q3, if_neg (by omega), if_neg (by omega), if_pos (by omega), q3, hk]
      · rw [if_neg q3]
        by_cases q4 : s < c
        · rw [if_pos q4, if_pos (by omega)]
        · rw [if_neg q4, if_neg (show ¬ s < c + 1 by omega)]
          have : s < i + 1 ↔ s < i := by omega
          simp only [this]
theorem k_moveToFront (U : xP) (M : xM) : xMetI U mX1_moveToFront [.inr 16] M (fun r M' => r = nI (aCnt (cA M 16)) ∧ mSt M M' (aFr (cA M 16) 32) (M 16)) := by
  refine xMetI.of (ty := .int) (L := [some (.inr 16), none, none]) fX1_moveToFront rfl rfl (Nat.le_of_ble_eq_true rfl) (fun G hN hO hR => ?_)
  have hN : G.2.2.2.2.2.2.2.2.2.2.1 = 3 := hN
  have hO : xOK U G RX1 cX1_moveToFront 2 := hO
  refine x_iconst (v := nI 0) hO dX1_moveToFront_0 rfl ?_
  refine x_istore_n (n := 3) hO dX1_moveToFront_1 rfl rfl (by decide) hN ?_
  refine x_iconst (v := nI 0) hO dX1_moveToFront_2 rfl ?_
  refine x_istore_n (n := 3) hO dX1_moveToFront_3 rfl rfl (by decide) hN ?_
  refine upd_ind (P := fun i _ => ∀ M1, mSt M M1 (aFr (cA M 16) i) (M 16) → XW U G 4 [some (.inr 16), some (.inl (nI (nC (aoc (cA M 16)) i))), some (.inl (nI i))] [] M1) 32 ?_ ?_ 32 0 rfl M (by rw [aFr_0]; exact mSt.rf M)
  · intro M1 h1
    refine x_iload_n hO dX1_moveToFront_4 rfl rfl ?_
    refine x_bipush (v := nI 32) hO dX1_moveToFront_5 rfl ?_
    refine x_icmp_ge (tgt := 33) hO dX1_moveToFront_7 (by decide) (fun c => ?_) (fun c => ?_)
    · refine x_iload_n hO dX1_moveToFront_33 rfl rfl ?_
      refine x_iret hO hR dX1_moveToFront_34 rfl ?_
      exact ⟨rfl, h1⟩
    · exact absurd (Int32.le_refl _) c
  · intro i d hd ih M1 h1
    have hi : i < 32 := by omega
    have hc := nC_le (aoc (cA M 16)) i
    have eo : aoc (cA M1 16) i = aoc (cA M 16) i := by
      rw [h1.1]
      unfold aoc aFr
      rw [if_neg (by omega), if_neg (by omega)]
    refine x_iload_n hO dX1_moveToFront_4 rfl rfl ?_
    refine x_bipush (v := nI 32) hO dX1_moveToFront_5 rfl ?_
    refine x_icmp_ge (tgt := 33) hO dX1_moveToFront_7 (by decide) (fun c => ?_) (fun c => ?_)
    · exact absurd c (nI_ge hi (by decide))
    · refine x_aload_n hO dX1_moveToFront_10 rfl rfl ?_
      refine x_iload_n hO dX1_moveToFront_11 rfl rfl ?_
      refine x_callV1 hO (k_holds M1 hi) dX1_moveToFront_12 lkX1_53 fX1_holdsEntry vX1_holdsEntry (by decide) rfl rfl rfl rfl rfl (by decide) (Nat.le_of_ble_eq_true rfl) ?_
      rw [eo]
      refine x_if_eq (tgt := 27) hO dX1_moveToFront_15 (by decide) (fun c2 => ?_) (fun c2 => ?_)
      · have e := bI_0 c2
        rw [nC_f e, aFr_f e (cA_none e)] at ih
        refine x_iinc hO dX1_moveToFront_27 rfl (by first | exact xinc_n _ | rfl) rfl hN ?_
        refine x_goto (tgt := 4) hO dX1_moveToFront_30 (by decide) ?_
        exact ih M1 h1
      · have e := bI_1 c2
        refine x_aload_n hO dX1_moveToFront_18 rfl rfl ?_
        refine x_iload_n hO dX1_moveToFront_19 rfl rfl ?_
        refine x_iload_n hO dX1_moveToFront_20 rfl rfl ?_
        refine x_callVv hO (k_moveEntry U M1 (i := i) (j := nC (aoc (cA M 16)) i) hi (by omega)) dX1_moveToFront_21 lkX1_102 fX1_moveEntry vX1_moveEntry (by decide) rfl rfl rfl rfl rfl (by decide) (Nat.le_of_ble_eq_true rfl) (fun M' h2 => ?_)
        have h3 := mSt.tr h1 h2
        rw [h1.1, h1.2.1, aFr_t hi e] at h3
        rw [nC_t e] at ih
        refine x_iinc hO dX1_moveToFront_24 rfl (by first | exact xinc_n _ | rfl) rfl hN ?_
        refine x_iinc hO dX1_moveToFront_27 rfl (by first | exact xinc_n _ | rfl) rfl hN ?_
        refine x_goto (tgt := 4) hO dX1_moveToFront_30 (by decide) ?_
        exact ih M' h3
/-- B has the entries of A, in their order, in the first slots of n shares -/
def isSp (A : aR) (n : Nat) (B : aR) : Prop := (∀ p, p < aCnt A → B (aTg n p) = A (kth A p)) ∧ ∀ s, (∀ p, p < aCnt A → aTg n p ≠ s) → B s = eR
theorem isSp.uni {A : aR} {n : Nat} {B C : aR} (h1 : isSp A n B) (h2 : isSp A n C) : B = C := by
  funext s
  rcases Classical.em (∃ p, p < aCnt A ∧ aTg n p = s) with ⟨p, hp, rfl⟩ | q
  · rw [h1.1 p hp, h2.1 p hp]
  · have q : ∀ p, p < aCnt A → aTg n p ≠ s := fun p hp e => q ⟨p, hp, e⟩
    rw [h1.2 s q, h2.2 s q]
/-- shares: no entry goes to a lower slot than its place, and no two to one -/
theorem aTg_ge {n p : Nat} (hn : n ≤ 32) : p ≤ aTg n p := by
  unfold aTg
  split
  · exact Nat.le_refl _
  · rename_i q
    rw [Nat.le_div_iff_mul_le (by omega), Nat.mul_comm]
    exact Nat.mul_le_mul_right _ hn
theorem aTg_lt2 {n p q : Nat} (hn : n ≤ 32) (h : p < q) : aTg n p < aTg n q := by
  unfold aTg
  split
  · exact h
  · rename_i z
    have e1 : 32 * p / n + 1 = (32 * p + n) / n := by rw [Nat.add_div_right _ (by omega)]
    have : (32 * p + n) / n ≤ 32 * q / n := Nat.div_le_div_right (by omega)
    omega
theorem k_moveIntoShares (U : xP) (M : xM) {n : Nat} (hn : n ≤ 32) (hc : aCnt (cA M 16) ≤ n) : xMetV U mX1_moveIntoShares [.inr 16, .inl (nI n)] M (fun M' => ∃ B, isSp (cA M 16) n B ∧ mSt M M' B (M 16)) := by
  refine xMetV.of (L := [some (.inr 16), some (.inl (nI n)), none, none]) fX1_moveIntoShares rfl rfl (Nat.le_of_ble_eq_true rfl) (fun G hN hO hR => ?_)
  have hN : G.2.2.2.2.2.2.2.2.2.2.1 = 4 := hN
  have hO : xOK U G RX1 cX1_moveIntoShares 3 := hO
  have hm : aCnt (cA M 16) ≤ 32 := aCnt_le _
  refine x_aload_n hO dX1_moveIntoShares_0 rfl rfl ?_
  refine x_callV hO (k_moveToFront U M) dX1_moveIntoShares_1 lkX1_108 fX1_moveToFront vX1_moveToFront (by decide) rfl rfl rfl rfl rfl (by decide) (Nat.le_of_ble_eq_true rfl) (fun r M' h1 => ?_)
  obtain ⟨rfl, h1⟩ := h1
  refine x_istore_n (n := 4) hO dX1_moveIntoShares_4 rfl rfl (by decide) hN ?_
  refine x_iload_n hO dX1_moveIntoShares_5 rfl rfl ?_
  refine x_iconst (v := nI 1) hO dX1_moveIntoShares_6 rfl ?_
  refine x_isub hO dX1_moveIntoShares_7 ?_
  have e0 : nI (aCnt (cA M 16)) - nI 1 = xm (aCnt (cA M 16)) := by
    cases aCnt (cA M 16) with
    | zero => rfl
    | succ j => exact nI_sub1 j
  rw [e0]
  refine x_istore_n (n := 4) hO dX1_moveIntoShares_8 rfl rfl (by decide) hN ?_
  have hF : aFr (cA M 16) 32 = fun s => if s < aCnt (cA M 16) then cA M 16 (kth (cA M 16) s) else eR := by
    funext s
    unfold aFr aCnt
    split
    · rfl
    · split
      · rfl
      · rw [cA_ge (by omega)]
  rw [hF] at h1
  generalize cA M 16 = A at *
  generalize hmm : aCnt A = m at *
  have loop : ∀ k, k ≤ m → ∀ (B : aR) (M1 : xM), mSt M M1 B (M 16) → (∀ p, k ≤ p → p < m → B (aTg n p) = A (kth A p)) → (∀ s, s < k → B s = A (kth A s)) → (∀ s, k ≤ s → (∀ p, k ≤ p → p < m → aTg n p ≠ s) → B s = eR) → XW U G 9 [some (.inr 16), some (.inl (nI n)), some (.inl (nI m)), some (.inl (xm k))] [] M1 := by
    intro k
    induction k with
    | zero =>
      intro _ B M1 h1 b1 b2 b3
      refine x_iload_n hO dX1_moveIntoShares_9 rfl rfl ?_
      refine x_if_lt (tgt := 29) hO dX1_moveIntoShares_10 (by decide) (fun c => ?_) (fun c => ?_)
      · refine x_vret hO hR dX1_moveIntoShares_29 ?_
        exact ⟨B, ⟨fun p hp => b1 p (Nat.zero_le _) (by rw [hmm] at hp; exact hp), fun s hs => b3 s (Nat.zero_le _) (fun p _ hp => hs p (by rw [hmm]; exact hp))⟩, h1⟩
      · exact absurd (by decide) c
    | succ k ih =>
      intro hk B M1 h1 b1 b2 b3
      have hk32 : k < 32 := by omega
      have ht : aTg n k < 32 := aTg_lt (by omega)
      have hge := aTg_ge (p := k) hn
      refine x_iload_n hO dX1_moveIntoShares_9 rfl rfl ?_
      refine x_if_lt (tgt := 29) hO dX1_moveIntoShares_10 (by decide) (fun c => ?_) (fun c => ?_)
      · exact absurd c (nI_pos (by omega))
      · refine x_aload_n hO dX1_moveIntoShares_13 rfl rfl ?_
        refine x_iload_n hO dX1_moveIntoShares_14 rfl rfl ?_
        refine x_iload_n hO dX1_moveIntoShares_15 rfl rfl ?_
        refine x_iload_n hO dX1_moveIntoShares_16 rfl rfl ?_
        refine x_callS1 hO (k_firstSlotOfShare U M1 (p := k) (by omega) hn) dX1_moveIntoShares_17 lkX1_105 fX1_firstSlotOfShare sX1_firstSlotOfShare rfl rfl (by decide) (Nat.le_of_ble_eq_true rfl) ?_
        refine x_callVv hO (k_moveEntry U M1 (i := k) (j := aTg n k) hk32 ht) dX1_moveIntoShares_20 lkX1_102 fX1_moveEntry vX1_moveEntry (by decide) rfl rfl rfl rfl rfl (by decide) (Nat.le_of_ble_eq_true rfl) (fun M' h2 => ?_)
        have h3 := mSt.tr h1 h2
        rw [h1.1, h1.2.1] at h3
        refine x_iinc hO dX1_moveIntoShares_23 rfl (xm_dec k) rfl hN ?_
        refine x_goto (tgt := 9) hO dX1_moveIntoShares_26 (by decide) ?_
        refine ih (by omega) _ M' h3 (fun p hp hpm => ?_) (fun s hs => ?_) (fun s hs hs2 => ?_)
        · unfold aMv
          by_cases q : p = k
          · subst q
            split
            · rename_i z
              rw [← z]
              exact b2 p (by omega)
            · rename_i z
              rw [if_neg (fun y => z y.symm), if_pos rfl]
              exact b2 p (by omega)
          · have l1 := aTg_lt2 (p := k) (q := p) hn (by omega)
            have l2 := aTg_ge (p := p) hn
            split
            · exact b1 p (by omega) hpm
            · rw [if_neg (by omega), if_neg (by omega)]
              exact b1 p (by omega) hpm
        · unfold aMv
          split
          · exact b2 s (by omega)
          · rw [if_neg (by omega), if_neg (by omega)]
            exact b2 s (by omega)
        · unfold aMv
          have n1 := hs2 k (Nat.le_refl _) (by omega)
          by_cases q : s = k
          · subst q
            rw [if_neg (fun z => n1 z.symm), if_pos rfl]
          · have b4 : B s = eR := b3 s (by omega) (fun p hp hpm => hs2 p (by omega) hpm)
            split
            · exact b4
            · first | rw [if_neg q, if_neg (fun z => n1 z.symm)] | rw [if_neg (fun z => n1 z.symm)]
              exact b4
  refine loop m (Nat.le_refl _) _ M' h1 (fun p h1 h2 => by omega) (fun s hs => by rw [if_pos hs]) (fun s hs _ => by rw [if_neg (by omega)])
/-! ===== Memory.countSearch ===== -/
def aHt (A : aR) (r : Int32) : aR := fun s w => if w = 6 ∧ A s 0 = r ∧ A s 1 = 0 then A s 6 + nI 1 else A s w
def hitM (M : xM) (r : Int32) (i : Nat) : xM := fun k s => if k = 23 ∧ s < i ∧ M 17 s = r then M 23 s + nI 1 else M k s
theorem hitM_s {M : xM} {r : Int32} {i : Nat} (h : M 17 i = r) : xset (hitM M r i) 23 i (M 23 i + nI 1) = hitM M r (i + 1) := by
  funext k s
  rw [xset_at]
  unfold hitM
  by_cases q : k = 23
  · subst q
    by_cases q2 : s = i
    · subst q2
      simp [h]
    · have : s < i + 1 ↔ s < i := by omega
      simp [this, q2]
  · simp [q]
theorem hitM_f {M : xM} {r : Int32} {i : Nat} (h : M 17 i ≠ r) : hitM M r (i + 1) = hitM M r i := by
  funext k s
  unfold hitM
  by_cases q : s = i
  · subst q
    rw [if_neg (fun z => h z.2.2), if_neg (fun z => by omega)]
  · have : s < i + 1 ↔ s < i := by omega
    simp only [this]
theorem hitM_A {M : xM} {r : Int32} (hr : r ≠ -1) : cA (hitM M r 32) 16 = aHt (cA M 16) r := by
  funext s w
  rcases Nat.lt_or_ge s 32 with hs | hs
  · by_cases ho : M 17 s = -1
    · have e1 : hitM M r 32 17 s = -1 := by simp [hitM, ho]
      rw [cA_free (M := hitM M r 32) e1]
      unfold aHt
      rw [cA_free (M := M) ho, if_neg]
      rintro ⟨-, h, -⟩
      exact hr h.symm
    · have o1 : occ M 16 s = true := by simp [occ, hs, ho]
      have o2 : occ (hitM M r 32) 16 s = true := by simp [occ, hitM, hs, ho]
      unfold aHt cA
      rw [o1, o2]
      simp only [if_true, hitM]
      by_cases q : w = 6
      · subst q
        by_cases q1 : M 18 s = 0
        · by_cases q2 : M 17 s = r
          · simp [q1, q2, hs]
          · simp [q1, q2]
        · simp [q1]
      · by_cases q3 : w < 6
        · have : ¬ 17 + w = 23 := by omega
          simp [q, q3, this]
        · simp [q, q3]
  · have e0 := cA_ge (M := hitM M r 32) (b := 16) hs
    rw [e0]
    unfold aHt
    rw [cA_ge (M := M) hs, if_neg]
    rintro ⟨-, h, -⟩
    exact hr h.symm
theorem k_countSearch (U : xP) (M : xM) (x : Int32) {j : Nat} (hj : j < 32) (ho : aoc (cA M 16) j = true) : xMetV U mX1_countSearch [.inr 16, .inl x, .inl (nI j)] M (fun M' => mSt M M' (aHt (cA M 16) (cA M 16 j 0)) (upd (upd (M 16) 10 (M 16 10 + nI 1)) 11 (M 16 11 + nI (aPw (cA M 16) x 4)))) := by
  refine xMetV.of (L := [some (.inr 16), some (.inl x), some (.inl (nI j)), none, none]) fX1_countSearch rfl rfl (Nat.le_of_ble_eq_true rfl) (fun G hN hO hR => ?_)
  have hN : G.2.2.2.2.2.2.2.2.2.2.1 = 5 := hN
  have hO : xOK U G RX1 cX1_countSearch 5 := hO
  have e0 : M 17 j = cA M 16 j 0 := cA_in (w := 0) ho (by decide)
  have hr : cA M 16 j 0 ≠ -1 := by intro z; simp [aoc, z] at ho
  refine x_aload_n hO dX1_countSearch_0 rfl rfl ?_
  refine x_iload_n hO dX1_countSearch_1 rfl rfl ?_
  refine x_callV1 hO (k_holds M hj) dX1_countSearch_2 lkX1_53 fX1_holdsEntry vX1_holdsEntry (by decide) rfl rfl rfl rfl rfl (by decide) (Nat.le_of_ble_eq_true rfl) ?_
  rw [ho]
  refine x_if_ne (tgt := 9) hO dX1_countSearch_5 (by decide) (fun c => ?_) (fun c => ?_)
  · refine x_aload_n hO dX1_countSearch_9 rfl rfl ?_
    refine x_dup hO dX1_countSearch_10 ?_
    refine x_getI (T := TX1) (j := 10) hO dX1_countSearch_11 flX1_43 (by decide) rfl rfl (by decide) rfl rfl ?_
    refine x_iconst (v := nI 1) hO dX1_countSearch_14 rfl ?_
    refine x_iadd hO dX1_countSearch_15 ?_
    refine x_put (T := TX1) (j := 10) (ty := .int) hO dX1_countSearch_16 flX1_43 (by decide) rfl rfl (by decide) rfl rfl rfl (by decide +kernel) rfl rfl ?_
    have h1 := mSt.num (M := M) 10 (by decide) (M 16 10 + nI 1)
    generalize xset M 16 10 (M 16 10 + nI 1) = M1 at h1 ⊢
    have e11 : M1 16 11 = M 16 11 := by rw [h1.2.1]; rfl
    refine x_aload_n hO dX1_countSearch_19 rfl rfl ?_
    refine x_dup hO dX1_countSearch_20 ?_
    refine x_getI (T := TX1) (j := 11) hO dX1_countSearch_21 flX1_46 (by decide) rfl rfl (by decide) rfl rfl ?_
    refine x_aload_n hO dX1_countSearch_24 rfl rfl ?_
    refine x_iload_n hO dX1_countSearch_25 rfl rfl ?_
    refine x_callV1 hO (k_powerFor U M1 x) dX1_countSearch_26 lkX1_119 fX1_powerFor vX1_powerFor (by decide) rfl rfl rfl rfl rfl (by decide) (Nat.le_of_ble_eq_true rfl) ?_
    rw [h1.1, e11]
    refine x_iadd hO dX1_countSearch_29 ?_
    refine x_put (T := TX1) (j := 11) (ty := .int) hO dX1_countSearch_30 flX1_46 (by decide) rfl rfl (by decide) rfl rfl rfl (by decide +kernel) rfl rfl ?_
    have h2 := mSt.tr h1 (mSt.num (M := M1) 11 (by decide) (M 16 11 + nI (aPw (cA M 16) x 4)))
    rw [h1.1, h1.2.1] at h2
    generalize xset M1 16 11 (M 16 11 + nI (aPw (cA M 16) x 4)) = M2 at h2 ⊢
    have ej : M2 17 j = cA M 16 j 0 := by
      rw [← h2.1] at ho
      have := cA_in (M := M2) (b := 16) (w := 0) ho (by decide)
      rw [h2.1] at this
      exact this
    refine x_aload_n hO dX1_countSearch_33 rfl rfl ?_
    refine x_getR (T := TX1) (j := 0) hO dX1_countSearch_34 flX1_9 (by decide) rfl rfl (by decide) rfl rfl ?_
    refine x_iload_n hO dX1_countSearch_37 rfl rfl ?_
    refine x_iald hO (by decide) rfl (by decide) (rfl) (hj) dX1_countSearch_38 ?_
    refine x_istore_n (n := 5) hO dX1_countSearch_39 rfl rfl (by decide) hN ?_
    refine x_iconst (v := nI 0) hO dX1_countSearch_40 rfl ?_
    refine x_istore (n := 5) hO dX1_countSearch_41 rfl (by decide) hN ?_
    rw [ej]
    generalize cA M 16 j 0 = r at *
    have hz : hitM M2 r 0 = M2 := by funext k s; simp [hitM]
    have lp := upd_ind (P := fun i _ => XW U G 43 [some (.inr 16), some (.inl x), some (.inl (nI j)), some (.inl r), some (.inl (nI i))] [] (hitM M2 r i)) 32 ?_ ?_ 32 0 rfl
    · rw [hz] at lp
      exact lp
    · refine x_iload hO dX1_countSearch_43 rfl ?_
      refine x_bipush (v := nI 32) hO dX1_countSearch_45 rfl ?_
      refine x_icmp_ge (tgt := 78) hO dX1_countSearch_47 (by decide) (fun c1 => ?_) (fun c1 => ?_)
      · refine x_vret hO hR dX1_countSearch_78 ?_
        refine ⟨by rw [hitM_A hr, h2.1], ?_, fun k hk => ?_⟩
        · rw [← h2.2.1]
          funext a
          simp [hitM]
        · rw [← h2.2.2 k hk]
          funext a
          have : ¬ k = 23 := by omega
          simp [hitM, this]
      · exact absurd (Int32.le_refl _) c1
    · intro i d hd ih
      have hi : i < 32 := by omega
      have e17 : hitM M2 r i 17 i = M2 17 i := by simp [hitM]
      have e23 : hitM M2 r i 23 i = M2 23 i := by simp [hitM]
      refine x_iload hO dX1_countSearch_43 rfl ?_
      refine x_bipush (v := nI 32) hO dX1_countSearch_45 rfl ?_
      refine x_icmp_ge (tgt := 78) hO dX1_countSearch_47 (by decide) (fun c1 => ?_) (fun c1 => ?_)
      · exact absurd c1 (nI_ge hi (by decide))
      · refine x_aload_n hO dX1_countSearch_50 rfl rfl ?_
        refine x_getR (T := TX1) (j := 0) hO dX1_countSearch_51 flX1_9 (by decide) rfl rfl (by decide) rfl rfl ?_
        refine x_iload hO dX1_countSearch_54 rfl ?_
        refine x_iald hO (by decide) rfl (by decide) (rfl) (hi) dX1_countSearch_56 ?_
        refine x_iload_n hO dX1_countSearch_57 rfl rfl ?_
        rw [e17]
        refine x_icmp_ne (tgt := 72) hO dX1_countSearch_58 (by decide) (fun c2 => ?_) (fun c2 => ?_)
        · rw [hitM_f c2] at ih
          refine x_iinc hO dX1_countSearch_72 rfl (by first | exact xinc_n _ | rfl) rfl hN ?_
          refine x_goto (tgt := 43) hO dX1_countSearch_75 (by decide) ?_
          exact ih
        · refine x_aload_n hO dX1_countSearch_61 rfl rfl ?_
          refine x_getR (T := TX1) (j := 6) hO dX1_countSearch_62 flX1_30 (by decide) rfl rfl (by decide) rfl rfl ?_
          refine x_iload hO dX1_countSearch_65 rfl ?_
          refine x_dup2 hO dX1_countSearch_67 ?_
          refine x_iald hO (by decide) rfl (by decide) (rfl) (hi) dX1_countSearch_68 ?_
          rw [e23]
          refine x_iconst (v := nI 1) hO dX1_countSearch_69 rfl ?_
          refine x_iadd hO dX1_countSearch_70 ?_
          refine x_iast hO (by decide) rfl (by decide) (rfl) (hi) dX1_countSearch_71 ?_
          rw [hitM_s c2]
          refine x_iinc hO dX1_countSearch_72 rfl (by first | exact xinc_n _ | rfl) rfl hN ?_
          refine x_goto (tgt := 43) hO dX1_countSearch_75 (by decide) ?_
          exact ih
  · exact absurd c (by decide)
end
section
/-! ===== Memory.copyFrom: the memory at p becomes as the one at q ===== -/
def cpSt (M M' : xM) (p q : Nat) : Prop := cA M' p = cA M q ∧ (∀ j, 7 ≤ j → j < 12 → M' p j = M q j) ∧ ∀ k, (k < p ∨ p + 8 ≤ k) → M' k = M k
def cpR (M M1 : xM) (p q i : Nat) : Prop := (∀ w, w < 7 → ∀ s, s < i → M1 (p + 1 + w) s = M (q + 1 + w) s) ∧ ∀ k, ¬ (p + 1 ≤ k ∧ k ≤ p + 7) → M1 k = M k
theorem cpR_s {M M1 M2 : xM} {p q i : Nat} (h : cpR M M1 p q i) (h1 : ∀ w, w < 7 → M2 (p + 1 + w) i = M (q + 1 + w) i) (h2 : ∀ w, w < 7 → ∀ s, s ≠ i → M2 (p + 1 + w) s = M1 (p + 1 + w) s) (h3 : ∀ k, ¬ (p + 1 ≤ k ∧ k ≤ p + 7) → M2 k = M1 k) : cpR M M2 p q (i + 1) := by
  refine ⟨fun w hw s hs => ?_, fun k hk => by rw [h3 k hk, h.2 k hk]⟩
  by_cases e : s = i
  · subst e; exact h1 w hw
  · rw [h2 w hw s e]
    exact h.1 w hw s (by omega)
theorem all5 {P : Nat → Prop} (h0 : P 7) (h1 : P 8) (h2 : P 9) (h3 : P 10) (h4 : P 11) : ∀ w, 7 ≤ w → w < 12 → P w := by
  intro w h h2
  obtain rfl | rfl | rfl | rfl | rfl : w = 7 ∨ w = 8 ∨ w = 9 ∨ w = 10 ∨ w = 11 := by omega
  all_goals assumption
theorem all7k {p : Nat} {P : Nat → Prop} (h : ∀ w, w < 7 → P (p + 1 + w)) : ∀ k, p + 1 ≤ k ∧ k ≤ p + 7 → P k := by
  intro k hk
  have := h (k - p - 1) (by omega)
  rwa [show p + 1 + (k - p - 1) = k by omega] at this
theorem k_copyFrom_16_24 (U : xP) (M : xM) : xMetV U mX1_copyFrom [.inr 16, .inr 24] M (fun M' => cpSt M M' 16 24) := by
  refine xMetV.of (L := [some (.inr 16), some (.inr 24), none]) fX1_copyFrom rfl rfl (Nat.le_of_ble_eq_true rfl) (fun G hN hO hR => ?_)
  have hN : G.2.2.2.2.2.2.2.2.2.2.1 = 3 := hN
  have hO : xOK U G RX1 cX1_copyFrom 0 := hO
  refine x_iconst (v := nI 0) hO dX1_copyFrom_0 rfl ?_
  refine x_istore_n (n := 3) hO dX1_copyFrom_1 rfl rfl (by decide) hN ?_
  refine upd_ind (P := fun i _ => ∀ M1, cpR M M1 16 24 i → XW U G 2 [some (.inr 16), some (.inr 24), some (.inl (nI i))] [] M1) 32 ?_ ?_ 32 0 rfl M ⟨fun w _ s hs => by omega, fun k _ => rfl⟩
  · intro M1 h1
    refine x_iload_n hO dX1_copyFrom_2 rfl rfl ?_
    refine x_bipush (v := nI 32) hO dX1_copyFrom_3 rfl ?_
    refine x_icmp_ge (tgt := 98) hO dX1_copyFrom_5 (by decide) (fun c => ?_) (fun c => ?_)
    · refine x_aload_n hO dX1_copyFrom_98 rfl rfl ?_
      refine x_aload_n hO dX1_copyFrom_99 rfl rfl ?_
      refine x_getI (T := TX1) (j := 7) hO dX1_copyFrom_100 flX1_33 (by decide) rfl rfl (by decide) rfl rfl ?_
      refine x_put (T := TX1) (j := 7) (ty := .int) hO dX1_copyFrom_103 flX1_33 (by decide) rfl rfl (by decide) rfl rfl rfl (by decide +kernel) rfl rfl ?_
      refine x_aload_n hO dX1_copyFrom_106 rfl rfl ?_
      refine x_aload_n hO dX1_copyFrom_107 rfl rfl ?_
      refine x_getI (T := TX1) (j := 8) hO dX1_copyFrom_108 flX1_37 (by decide) rfl rfl (by decide) rfl rfl ?_
      refine x_put (T := TX1) (j := 8) (ty := .int) hO dX1_copyFrom_111 flX1_37 (by decide) rfl rfl (by decide) rfl rfl rfl (by decide +kernel) rfl rfl ?_
      refine x_aload_n hO dX1_copyFrom_114 rfl rfl ?_
      refine x_aload_n hO dX1_copyFrom_115 rfl rfl ?_
      refine x_getI (T := TX1) (j := 9) hO dX1_copyFrom_116 flX1_40 (by decide) rfl rfl (by decide) rfl rfl ?_
      refine x_put (T := TX1) (j := 9) (ty := .int) hO dX1_copyFrom_119 flX1_40 (by decide) rfl rfl (by decide) rfl rfl rfl (by decide +kernel) rfl rfl ?_
      refine x_aload_n hO dX1_copyFrom_122 rfl rfl ?_
      refine x_aload_n hO dX1_copyFrom_123 rfl rfl ?_
      refine x_getI (T := TX1) (j := 10) hO dX1_copyFrom_124 flX1_43 (by decide) rfl rfl (by decide) rfl rfl ?_
      refine x_put (T := TX1) (j := 10) (ty := .int) hO dX1_copyFrom_127 flX1_43 (by decide) rfl rfl (by decide) rfl rfl rfl (by decide +kernel) rfl rfl ?_
      refine x_aload_n hO dX1_copyFrom_130 rfl rfl ?_
      refine x_aload_n hO dX1_copyFrom_131 rfl rfl ?_
      refine x_getI (T := TX1) (j := 11) hO dX1_copyFrom_132 flX1_46 (by decide) rfl rfl (by decide) rfl rfl ?_
      refine x_put (T := TX1) (j := 11) (ty := .int) hO dX1_copyFrom_135 flX1_46 (by decide) rfl rfl (by decide) rfl rfl rfl (by decide +kernel) rfl rfl ?_
      refine x_vret hO hR dX1_copyFrom_138 ?_
      have gp : M1 16 = M 16 := h1.2 _ (by omega)
      have gq : M1 24 = M 24 := h1.2 _ (by omega)
      refine ⟨cA_ext (fun s hs => ?_) (fun s hs => cA_ge hs), all5 ?_ ?_ ?_ ?_ ?_, fun k hk => ?_⟩
      · refine cA_row hs hs (fun w hw => ?_)
        have e := h1.1 w hw s hs
        have n0 : ¬ 16 + 1 + w = 16 := by omega
        simp only [xset_at, n0, if_false]
        exact e
      · simp [xset_at, gp, gq]
      · simp [xset_at, gp, gq]
      · simp [xset_at, gp, gq]
      · simp [xset_at, gp, gq]
      · simp [xset_at, gp, gq]
      · have n0 : ¬ k = 16 := by omega
        funext a
        simp only [xset_at, n0, if_false]
        rw [h1.2 k (by omega)]
    · exact absurd (Int32.le_refl _) c
  · intro i d hd ih M1 h1
    have hi : i < 32 := by omega
    have g25 : M1 25 = M 25 := h1.2 _ (by omega)
    have g26 : M1 26 = M 26 := h1.2 _ (by omega)
    have g27 : M1 27 = M 27 := h1.2 _ (by omega)
    have g28 : M1 28 = M 28 := h1.2 _ (by omega)
    have g29 : M1 29 = M 29 := h1.2 _ (by omega)
    have g30 : M1 30 = M 30 := h1.2 _ (by omega)
    have g31 : M1 31 = M 31 := h1.2 _ (by omega)
    refine x_iload_n hO dX1_copyFrom_2 rfl rfl ?_
    refine x_bipush (v := nI 32) hO dX1_copyFrom_3 rfl ?_
    refine x_icmp_ge (tgt := 98) hO dX1_copyFrom_5 (by decide) (fun c => ?_) (fun c => ?_)
    · exact absurd c (nI_ge hi (by decide))
    · refine x_aload_n hO dX1_copyFrom_8 rfl rfl ?_
      refine x_getR (T := TX1) (j := 0) hO dX1_copyFrom_9 flX1_9 (by decide) rfl rfl (by decide) rfl rfl ?_
      refine x_iload_n hO dX1_copyFrom_12 rfl rfl ?_
      refine x_aload_n hO dX1_copyFrom_13 rfl rfl ?_
      refine x_getR (T := TX1) (j := 0) hO dX1_copyFrom_14 flX1_9 (by decide) rfl rfl (by decide) rfl rfl ?_
      refine x_iload_n hO dX1_copyFrom_17 rfl rfl ?_
      refine x_iald hO (by decide) rfl (by decide) (rfl) (hi) dX1_copyFrom_18 ?_
      refine x_iast hO (by decide) rfl (by decide) (rfl) (hi) dX1_copyFrom_19 ?_
      refine x_aload_n hO dX1_copyFrom_20 rfl rfl ?_
      refine x_getR (T := TX1) (j := 1) hO dX1_copyFrom_21 flX1_15 (by decide) rfl rfl (by decide) rfl rfl ?_
      refine x_iload_n hO dX1_copyFrom_24 rfl rfl ?_
      refine x_aload_n hO dX1_copyFrom_25 rfl rfl ?_
      refine x_getR (T := TX1) (j := 1) hO dX1_copyFrom_26 flX1_15 (by decide) rfl rfl (by decide) rfl rfl ?_
      refine x_iload_n hO dX1_copyFrom_29 rfl rfl ?_
      refine x_iald hO (by decide) rfl (by decide) (rfl) (hi) dX1_copyFrom_30 ?_
      refine x_iast hO (by decide) rfl (by decide) (rfl) (hi) dX1_copyFrom_31 ?_
      refine x_aload_n hO dX1_copyFrom_32 rfl rfl ?_
      refine x_getR (T := TX1) (j := 2) hO dX1_copyFrom_33 flX1_18 (by decide) rfl rfl (by decide) rfl rfl ?_
      refine x_iload_n hO dX1_copyFrom_36 rfl rfl ?_
      refine x_aload_n hO dX1_copyFrom_37 rfl rfl ?_
      refine x_getR (T := TX1) (j := 2) hO dX1_copyFrom_38 flX1_18 (by decide) rfl rfl (by decide) rfl rfl ?_
      refine x_iload_n hO dX1_copyFrom_41 rfl rfl ?_
      refine x_iald hO (by decide) rfl (by decide) (rfl) (hi) dX1_copyFrom_42 ?_
      refine x_iast hO (by decide) rfl (by decide) (rfl) (hi) dX1_copyFrom_43 ?_
      refine x_aload_n hO dX1_copyFrom_44 rfl rfl ?_
      refine x_getR (T := TX1) (j := 3) hO dX1_copyFrom_45 flX1_21 (by decide) rfl rfl (by decide) rfl rfl ?_
      refine x_iload_n hO dX1_copyFrom_48 rfl rfl ?_
      refine x_aload_n hO dX1_copyFrom_49 rfl rfl ?_
      refine x_getR (T := TX1) (j := 3) hO dX1_copyFrom_50 flX1_21 (by decide) rfl rfl (by decide) rfl rfl ?_
      refine x_iload_n hO dX1_copyFrom_53 rfl rfl ?_
      refine x_iald hO (by decide) rfl (by decide) (rfl) (hi) dX1_copyFrom_54 ?_
      refine x_iast hO (by decide) rfl (by decide) (rfl) (hi) dX1_copyFrom_55 ?_
      refine x_aload_n hO dX1_copyFrom_56 rfl rfl ?_
      refine x_getR (T := TX1) (j := 4) hO dX1_copyFrom_57 flX1_24 (by decide) rfl rfl (by decide) rfl rfl ?_
      refine x_iload_n hO dX1_copyFrom_60 rfl rfl ?_
      refine x_aload_n hO dX1_copyFrom_61 rfl rfl ?_
      refine x_getR (T := TX1) (j := 4) hO dX1_copyFrom_62 flX1_24 (by decide) rfl rfl (by decide) rfl rfl ?_
      refine x_iload_n hO dX1_copyFrom_65 rfl rfl ?_
      refine x_iald hO (by decide) rfl (by decide) (rfl) (hi) dX1_copyFrom_66 ?_
      refine x_iast hO (by decide) rfl (by decide) (rfl) (hi) dX1_copyFrom_67 ?_
      refine x_aload_n hO dX1_copyFrom_68 rfl rfl ?_
      refine x_getR (T := TX1) (j := 5) hO dX1_copyFrom_69 flX1_27 (by decide) rfl rfl (by decide) rfl rfl ?_
      refine x_iload_n hO dX1_copyFrom_72 rfl rfl ?_
      refine x_aload_n hO dX1_copyFrom_73 rfl rfl ?_
      refine x_getR (T := TX1) (j := 5) hO dX1_copyFrom_74 flX1_27 (by decide) rfl rfl (by decide) rfl rfl ?_
      refine x_iload_n hO dX1_copyFrom_77 rfl rfl ?_
      refine x_iald hO (by decide) rfl (by decide) (rfl) (hi) dX1_copyFrom_78 ?_
      refine x_iast hO (by decide) rfl (by decide) (rfl) (hi) dX1_copyFrom_79 ?_
      refine x_aload_n hO dX1_copyFrom_80 rfl rfl ?_
      refine x_getR (T := TX1) (j := 6) hO dX1_copyFrom_81 flX1_30 (by decide) rfl rfl (by decide) rfl rfl ?_
      refine x_iload_n hO dX1_copyFrom_84 rfl rfl ?_
      refine x_aload_n hO dX1_copyFrom_85 rfl rfl ?_
      refine x_getR (T := TX1) (j := 6) hO dX1_copyFrom_86 flX1_30 (by decide) rfl rfl (by decide) rfl rfl ?_
      refine x_iload_n hO dX1_copyFrom_89 rfl rfl ?_
      refine x_iald hO (by decide) rfl (by decide) (rfl) (hi) dX1_copyFrom_90 ?_
      refine x_iast hO (by decide) rfl (by decide) (rfl) (hi) dX1_copyFrom_91 ?_
      refine x_iinc hO dX1_copyFrom_92 rfl (by first | exact xinc_n _ | rfl) rfl hN ?_
      refine x_goto (tgt := 2) hO dX1_copyFrom_95 (by decide) ?_
      refine ih _ (cpR_s h1 (all7 ?_ ?_ ?_ ?_ ?_ ?_ ?_) (all7 ?_ ?_ ?_ ?_ ?_ ?_ ?_) (fun k hk => ?_))
      all_goals first
        | (simp [xset_at, g25, g26, g27, g28, g29, g30, g31]; done)
        | (intro s hs; simp [xset_at, hs]; done)
        | skip
      have h17 : ¬ k = 17 := by omega
      have h18 : ¬ k = 18 := by omega
      have h19 : ¬ k = 19 := by omega
      have h20 : ¬ k = 20 := by omega
      have h21 : ¬ k = 21 := by omega
      have h22 : ¬ k = 22 := by omega
      have h23 : ¬ k = 23 := by omega
      funext a
      simp [xset_at, h17, h18, h19, h20, h21, h22, h23]
theorem k_copyFrom_16_32 (U : xP) (M : xM) : xMetV U mX1_copyFrom [.inr 16, .inr 32] M (fun M' => cpSt M M' 16 32) := by
  refine xMetV.of (L := [some (.inr 16), some (.inr 32), none]) fX1_copyFrom rfl rfl (Nat.le_of_ble_eq_true rfl) (fun G hN hO hR => ?_)
  have hN : G.2.2.2.2.2.2.2.2.2.2.1 = 3 := hN
  have hO : xOK U G RX1 cX1_copyFrom 0 := hO
  refine x_iconst (v := nI 0) hO dX1_copyFrom_0 rfl ?_
  refine x_istore_n (n := 3) hO dX1_copyFrom_1 rfl rfl (by decide) hN ?_
  refine upd_ind (P := fun i _ => ∀ M1, cpR M M1 16 32 i → XW U G 2 [some (.inr 16), some (.inr 32), some (.inl (nI i))] [] M1) 32 ?_ ?_ 32 0 rfl M ⟨fun w _ s hs => by omega, fun k _ => rfl⟩
  · intro M1 h1
    refine x_iload_n hO dX1_copyFrom_2 rfl rfl ?_
    refine x_bipush (v := nI 32) hO dX1_copyFrom_3 rfl ?_
    refine x_icmp_ge (tgt := 98) hO dX1_copyFrom_5 (by decide) (fun c => ?_) (fun c => ?_)
    · refine x_aload_n hO dX1_copyFrom_98 rfl rfl ?_
      refine x_aload_n hO dX1_copyFrom_99 rfl rfl ?_
      refine x_getI (T := TX1) (j := 7) hO dX1_copyFrom_100 flX1_33 (by decide) rfl rfl (by decide) rfl rfl ?_
      refine x_put (T := TX1) (j := 7) (ty := .int) hO dX1_copyFrom_103 flX1_33 (by decide) rfl rfl (by decide) rfl rfl rfl (by decide +kernel) rfl rfl ?_
      refine x_aload_n hO dX1_copyFrom_106 rfl rfl ?_
      refine x_aload_n hO dX1_copyFrom_107 rfl rfl ?_
      refine x_getI (T := TX1) (j := 8) hO dX1_copyFrom_108 flX1_37 (by decide) rfl rfl (by decide) rfl rfl ?_
      refine x_put (T := TX1) (j := 8) (ty := .int) hO dX1_copyFrom_111 flX1_37 (by decide) rfl rfl (by decide) rfl rfl rfl (by decide +kernel) rfl rfl ?_
      refine x_aload_n hO dX1_copyFrom_114 rfl rfl ?_
      refine x_aload_n hO dX1_copyFrom_115 rfl rfl ?_
      refine x_getI (T := TX1) (j := 9) hO dX1_copyFrom_116 flX1_40 (by decide) rfl rfl (by decide) rfl rfl ?_
      refine x_put (T := TX1) (j := 9) (ty := .int) hO dX1_copyFrom_119 flX1_40 (by decide) rfl rfl (by decide) rfl rfl rfl (by decide +kernel) rfl rfl ?_
      refine x_aload_n hO dX1_copyFrom_122 rfl rfl ?_
      refine x_aload_n hO dX1_copyFrom_123 rfl rfl ?_
      refine x_getI (T := TX1) (j := 10) hO dX1_copyFrom_124 flX1_43 (by decide) rfl rfl (by decide) rfl rfl ?_
      refine x_put (T := TX1) (j := 10) (ty := .int) hO dX1_copyFrom_127 flX1_43 (by decide) rfl rfl (by decide) rfl rfl rfl (by decide +kernel) rfl rfl ?_
      refine x_aload_n hO dX1_copyFrom_130 rfl rfl ?_
      refine x_aload_n hO dX1_copyFrom_131 rfl rfl ?_
      refine x_getI (T := TX1) (j := 11) hO dX1_copyFrom_132 flX1_46 (by decide) rfl rfl (by decide) rfl rfl ?_
      refine x_put (T := TX1) (j := 11) (ty := .int) hO dX1_copyFrom_135 flX1_46 (by decide) rfl rfl (by decide) rfl rfl rfl (by decide +kernel) rfl rfl ?_
      refine x_vret hO hR dX1_copyFrom_138 ?_
      have gp : M1 16 = M 16 := h1.2 _ (by omega)
      have gq : M1 32 = M 32 := h1.2 _ (by omega)
      refine ⟨cA_ext (fun s hs => ?_) (fun s hs => cA_ge hs), all5 ?_ ?_ ?_ ?_ ?_, fun k hk => ?_⟩
      · refine cA_row hs hs (fun w hw => ?_)
        have e := h1.1 w hw s hs
        have n0 : ¬ 16 + 1 + w = 16 := by omega
        simp only [xset_at, n0, if_false]
        exact e
      · simp [xset_at, gp, gq]
      · simp [xset_at, gp, gq]
      · simp [xset_at, gp, gq]
      · simp [xset_at, gp, gq]
      · simp [xset_at, gp, gq]
      · have n0 : ¬ k = 16 := by omega
        funext a
        simp only [xset_at, n0, if_false]
        rw [h1.2 k (by omega)]
    · exact absurd (Int32.le_refl _) c
  · intro i d hd ih M1 h1
    have hi : i < 32 := by omega
    have g33 : M1 33 = M 33 := h1.2 _ (by omega)
    have g34 : M1 34 = M 34 := h1.2 _ (by omega)
    have g35 : M1 35 = M 35 := h1.2 _ (by omega)
    have g36 : M1 36 = M 36 := h1.2 _ (by omega)
    have g37 : M1 37 = M 37 := h1.2 _ (by omega)
    have g38 : M1 38 = M 38 := h1.2 _ (by omega)
    have g39 : M1 39 = M 39 := h1.2 _ (by omega)
    refine x_iload_n hO dX1_copyFrom_2 rfl rfl ?_
    refine x_bipush (v := nI 32) hO dX1_copyFrom_3 rfl ?_
    refine x_icmp_ge (tgt := 98) hO dX1_copyFrom_5 (by decide) (fun c => ?_) (fun c => ?_)
    · exact absurd c (nI_ge hi (by decide))
    · refine x_aload_n hO dX1_copyFrom_8 rfl rfl ?_
      refine x_getR (T := TX1) (j := 0) hO dX1_copyFrom_9 flX1_9 (by decide) rfl rfl (by decide) rfl rfl ?_
      refine x_iload_n hO dX1_copyFrom_12 rfl rfl ?_
      refine x_aload_n hO dX1_copyFrom_13 rfl rfl ?_
      refine x_getR (T := TX1) (j := 0) hO dX1_copyFrom_14 flX1_9 (by decide) rfl rfl (by decide) rfl rfl ?_
      refine x_iload_n hO dX1_copyFrom_17 rfl rfl ?_
      refine x_iald hO (by decide) rfl (by decide) (rfl) (hi) dX1_copyFrom_18 ?_
      refine x_iast hO (by decide) rfl (by decide) (rfl) (hi) dX1_copyFrom_19 ?_
      refine x_aload_n hO dX1_copyFrom_20 rfl rfl ?_
      refine x_getR (T := TX1) (j := 1) hO dX1_copyFrom_21 flX1_15 (by decide) rfl rfl (by decide) rfl rfl ?_
      refine x_iload_n hO dX1_copyFrom_24 rfl rfl ?_
      refine x_aload_n hO dX1_copyFrom_25 rfl rfl ?_
      refine x_getR (T := TX1) (j := 1) hO dX1_copyFrom_26 flX1_15 (by decide) rfl rfl (by decide) rfl rfl ?_
      refine x_iload_n hO dX1_copyFrom_29 rfl rfl ?_
      refine x_iald hO (by decide) rfl (by decide) (rfl) (hi) dX1_copyFrom_30 ?_
      refine x_iast hO (by decide) rfl (by decide) (rfl) (hi) dX1_copyFrom_31 ?_
      refine x_aload_n hO dX1_copyFrom_32 rfl rfl ?_
      refine x_getR (T := TX1) (j := 2) hO dX1_copyFrom_33 flX1_18 (by decide) rfl rfl (by decide) rfl rfl ?_
      refine x_iload_n hO dX1_copyFrom_36 rfl rfl ?_
      refine x_aload_n hO dX1_copyFrom_37 rfl rfl ?_
      refine x_getR (T := TX1) (j := 2) hO dX1_copyFrom_38 flX1_18 (by decide) rfl rfl (by decide) rfl rfl ?_
      refine x_iload_n hO dX1_copyFrom_41 rfl rfl ?_
      refine x_iald hO (by decide) rfl (by decide) (rfl) (hi) dX1_copyFrom_42 ?_
      refine x_iast hO (by decide) rfl (by decide) (rfl) (hi) dX1_copyFrom_43 ?_
      refine x_aload_n hO dX1_copyFrom_44 rfl rfl ?_
      refine x_getR (T := TX1) (j := 3) hO dX1_copyFrom_45 flX1_21 (by decide) rfl rfl (by decide) rfl rfl ?_
      refine x_iload_n hO dX1_copyFrom_48 rfl rfl ?_
      refine x_aload_n hO dX1_copyFrom_49 rfl rfl ?_
      refine x_getR (T := TX1) (j := 3) hO dX1_copyFrom_50 flX1_21 (by decide) rfl rfl (by decide) rfl rfl ?_
      refine x_iload_n hO dX1_copyFrom_53 rfl rfl ?_
      refine x_iald hO (by decide) rfl (by decide) (rfl) (hi) dX1_copyFrom_54 ?_
      refine x_iast hO (by decide) rfl (by decide) (rfl) (hi) dX1_copyFrom_55 ?_
      refine x_aload_n hO dX1_copyFrom_56 rfl rfl ?_
      refine x_getR (T := TX1) (j := 4) hO dX1_copyFrom_57 flX1_24 (by decide) rfl rfl (by decide) rfl rfl ?_
      refine x_iload_n hO dX1_copyFrom_60 rfl rfl ?_
      refine x_aload_n hO dX1_copyFrom_61 rfl rfl ?_
      refine x_getR (T := TX1) (j := 4) hO dX1_copyFrom_62 flX1_24 (by decide) rfl rfl (by decide) rfl rfl ?_
      refine x_iload_n hO dX1_copyFrom_65 rfl rfl ?_
      refine x_iald hO (by decide) rfl (by decide) (rfl) (hi) dX1_copyFrom_66 ?_
      refine x_iast hO (by decide) rfl (by decide) (rfl) (hi) dX1_copyFrom_67 ?_
      refine x_aload_n hO dX1_copyFrom_68 rfl rfl ?_
      refine x_getR (T := TX1) (j := 5) hO dX1_copyFrom_69 flX1_27 (by decide) rfl rfl (by decide) rfl rfl ?_
      refine x_iload_n hO dX1_copyFrom_72 rfl rfl ?_
      refine x_aload_n hO dX1_copyFrom_73 rfl rfl ?_
      refine x_getR (T := TX1) (j := 5) hO dX1_copyFrom_74 flX1_27 (by decide) rfl rfl (by decide) rfl rfl ?_
      refine x_iload_n hO dX1_copyFrom_77 rfl rfl ?_
      refine x_iald hO (by decide) rfl (by decide) (rfl) (hi) dX1_copyFrom_78 ?_
      refine x_iast hO (by decide) rfl (by decide) (rfl) (hi) dX1_copyFrom_79 ?_
      refine x_aload_n hO dX1_copyFrom_80 rfl rfl ?_
      refine x_getR (T := TX1) (j := 6) hO dX1_copyFrom_81 flX1_30 (by decide) rfl rfl (by decide) rfl rfl ?_
      refine x_iload_n hO dX1_copyFrom_84 rfl rfl ?_
      refine x_aload_n hO dX1_copyFrom_85 rfl rfl ?_
      refine x_getR (T := TX1) (j := 6) hO dX1_copyFrom_86 flX1_30 (by decide) rfl rfl (by decide) rfl rfl ?_
      refine x_iload_n hO dX1_copyFrom_89 rfl rfl ?_
      refine x_iald hO (by decide) rfl (by decide) (rfl) (hi) dX1_copyFrom_90 ?_
      refine x_iast hO (by decide) rfl (by decide) (rfl) (hi) dX1_copyFrom_91 ?_
      refine x_iinc hO dX1_copyFrom_92 rfl (by first | exact xinc_n _ | rfl) rfl hN ?_
      refine x_goto (tgt := 2) hO dX1_copyFrom_95 (by decide) ?_
      refine ih _ (cpR_s h1 (all7 ?_ ?_ ?_ ?_ ?_ ?_ ?_) (all7 ?_ ?_ ?_ ?_ ?_ ?_ ?_) (fun k hk => ?_))
      all_goals first
        | (simp [xset_at, g33, g34, g35, g36, g37, g38, g39]; done)
        | (intro s hs; simp [xset_at, hs]; done)
        | skip
      have h17 : ¬ k = 17 := by omega
      have h18 : ¬ k = 18 := by omega
      have h19 : ¬ k = 19 := by omega
      have h20 : ¬ k = 20 := by omega
      have h21 : ¬ k = 21 := by omega
      have h22 : ¬ k = 22 := by omega
      have h23 : ¬ k = 23 := by omega
      funext a
      simp [xset_at, h17, h18, h19, h20, h21, h22, h23]
theorem k_copyFrom_16_40 (U : xP) (M : xM) : xMetV U mX1_copyFrom [.inr 16, .inr 40] M (fun M' => cpSt M M' 16 40) := by
  refine xMetV.of (L := [some (.inr 16), some (.inr 40), none]) fX1_copyFrom rfl rfl (Nat.le_of_ble_eq_true rfl) (fun G hN hO hR => ?_)
  have hN : G.2.2.2.2.2.2.2.2.2.2.1 = 3 := hN
  have hO : xOK U G RX1 cX1_copyFrom 0 := hO
  refine x_iconst (v := nI 0) hO dX1_copyFrom_0 rfl ?_
  refine x_istore_n (n := 3) hO dX1_copyFrom_1 rfl rfl (by decide) hN ?_
  refine upd_ind (P := fun i _ => ∀ M1, cpR M M1 16 40 i → XW U G 2 [some (.inr 16), some (.inr 40), some (.inl (nI i))] [] M1) 32 ?_ ?_ 32 0 rfl M ⟨fun w _ s hs => by omega, fun k _ => rfl⟩
  · intro M1 h1
    refine x_iload_n hO dX1_copyFrom_2 rfl rfl ?_
    refine x_bipush (v := nI 32) hO dX1_copyFrom_3 rfl ?_
    refine x_icmp_ge (tgt := 98) hO dX1_copyFrom_5 (by decide) (fun c => ?_) (fun c => ?_)
    · refine x_aload_n hO dX1_copyFrom_98 rfl rfl ?_
      refine x_aload_n hO dX1_copyFrom_99 rfl rfl ?_
      refine x_getI (T := TX1) (j := 7) hO dX1_copyFrom_100 flX1_33 (by decide) rfl rfl (by decide) rfl rfl ?_
      refine x_put (T := TX1) (j := 7) (ty := .int) hO dX1_copyFrom_103 flX1_33 (by decide) rfl rfl (by decide) rfl rfl rfl (by decide +kernel) rfl rfl ?_
      refine x_aload_n hO dX1_copyFrom_106 rfl rfl ?_
      refine x_aload_n hO dX1_copyFrom_107 rfl rfl ?_
      refine x_getI (T := TX1) (j := 8) hO dX1_copyFrom_108 flX1_37 (by decide) rfl rfl (by decide) rfl rfl ?_
      refine x_put (T := TX1) (j := 8) (ty := .int) hO dX1_copyFrom_111 flX1_37 (by decide) rfl rfl (by decide) rfl rfl rfl (by decide +kernel) rfl rfl ?_
      refine x_aload_n hO dX1_copyFrom_114 rfl rfl ?_
      refine x_aload_n hO dX1_copyFrom_115 rfl rfl ?_
      refine x_getI (T := TX1) (j := 9) hO dX1_copyFrom_116 flX1_40 (by decide) rfl rfl (by decide) rfl rfl ?_
      refine x_put (T := TX1) (j := 9) (ty := .int) hO dX1_copyFrom_119 flX1_40 (by decide) rfl rfl (by decide) rfl rfl rfl (by decide +kernel) rfl rfl ?_
      refine x_aload_n hO dX1_copyFrom_122 rfl rfl ?_
      refine x_aload_n hO dX1_copyFrom_123 rfl rfl ?_
      refine x_getI (T := TX1) (j := 10) hO dX1_copyFrom_124 flX1_43 (by decide) rfl rfl (by decide) rfl rfl ?_
      refine x_put (T := TX1) (j := 10) (ty := .int) hO dX1_copyFrom_127 flX1_43 (by decide) rfl rfl (by decide) rfl rfl rfl (by decide +kernel) rfl rfl ?_
      refine x_aload_n hO dX1_copyFrom_130 rfl rfl ?_
      refine x_aload_n hO dX1_copyFrom_131 rfl rfl ?_
      refine x_getI (T := TX1) (j := 11) hO dX1_copyFrom_132 flX1_46 (by decide) rfl rfl (by decide) rfl rfl ?_
      refine x_put (T := TX1) (j := 11) (ty := .int) hO dX1_copyFrom_135 flX1_46 (by decide) rfl rfl (by decide) rfl rfl rfl (by decide +kernel) rfl rfl ?_
      refine x_vret hO hR dX1_copyFrom_138 ?_
      have gp : M1 16 = M 16 := h1.2 _ (by omega)
      have gq : M1 40 = M 40 := h1.2 _ (by omega)
      refine ⟨cA_ext (fun s hs => ?_) (fun s hs => cA_ge hs), all5 ?_ ?_ ?_ ?_ ?_, fun k hk => ?_⟩
      · refine cA_row hs hs (fun w hw => ?_)
        have e := h1.1 w hw s hs
        have n0 : ¬ 16 + 1 + w = 16 := by omega
        simp only [xset_at, n0, if_false]
        exact e
      · simp [xset_at, gp, gq]
      · simp [xset_at, gp, gq]
      · simp [xset_at, gp, gq]
      · simp [xset_at, gp, gq]
      · simp [xset_at, gp, gq]
      · have n0 : ¬ k = 16 := by omega
        funext a
        simp only [xset_at, n0, if_false]
        rw [h1.2 k (by omega)]
    · exact absurd (Int32.le_refl _) c
  · intro i d hd ih M1 h1
    have hi : i < 32 := by omega
    have g41 : M1 41 = M 41 := h1.2 _ (by omega)
    have g42 : M1 42 = M 42 := h1.2 _ (by omega)
    have g43 : M1 43 = M 43 := h1.2 _ (by omega)
    have g44 : M1 44 = M 44 := h1.2 _ (by omega)
    have g45 : M1 45 = M 45 := h1.2 _ (by omega)
    have g46 : M1 46 = M 46 := h1.2 _ (by omega)
    have g47 : M1 47 = M 47 := h1.2 _ (by omega)
    refine x_iload_n hO dX1_copyFrom_2 rfl rfl ?_
    refine x_bipush (v := nI 32) hO dX1_copyFrom_3 rfl ?_
    refine x_icmp_ge (tgt := 98) hO dX1_copyFrom_5 (by decide) (fun c => ?_) (fun c => ?_)
    · exact absurd c (nI_ge hi (by decide))
    · refine x_aload_n hO dX1_copyFrom_8 rfl rfl ?_
      refine x_getR (T := TX1) (j := 0) hO dX1_copyFrom_9 flX1_9 (by decide) rfl rfl (by decide) rfl rfl ?_
      refine x_iload_n hO dX1_copyFrom_12 rfl rfl ?_
      refine x_aload_n hO dX1_copyFrom_13 rfl rfl ?_
      refine x_getR (T := TX1) (j := 0) hO dX1_copyFrom_14 flX1_9 (by decide) rfl rfl (by decide) rfl rfl ?_
      refine x_iload_n hO dX1_copyFrom_17 rfl rfl ?_
      refine x_iald hO (by decide) rfl (by decide) (rfl) (hi) dX1_copyFrom_18 ?_
      refine x_iast hO (by decide) rfl (by decide) (rfl) (hi) dX1_copyFrom_19 ?_
      refine x_aload_n hO dX1_copyFrom_20 rfl rfl ?_
      refine x_getR (T := TX1) (j := 1) hO dX1_copyFrom_21 flX1_15 (by decide) rfl rfl (by decide) rfl rfl ?_
      refine x_iload_n hO dX1_copyFrom_24 rfl rfl ?_
      refine x_aload_n hO dX1_copyFrom_25 rfl rfl ?_
      refine x_getR (T := TX1) (j := 1) hO dX1_copyFrom_26 flX1_15 (by decide) rfl rfl (by decide) rfl rfl ?_
      refine x_iload_n hO dX1_copyFrom_29 rfl rfl ?_
      refine x_iald hO (by decide) rfl (by decide) (rfl) (hi) dX1_copyFrom_30 ?_
      refine x_iast hO (by decide) rfl (by decide) (rfl) (hi) dX1_copyFrom_31 ?_
      refine x_aload_n hO dX1_copyFrom_32 rfl rfl ?_
      refine x_getR (T := TX1) (j := 2) hO dX1_copyFrom_33 flX1_18 (by decide) rfl rfl (by decide) rfl rfl ?_
      refine x_iload_n hO dX1_copyFrom_36 rfl rfl ?_
      refine x_aload_n hO dX1_copyFrom_37 rfl rfl ?_
      refine x_getR (T := TX1) (j := 2) hO dX1_copyFrom_38 flX1_18 (by decide) rfl rfl (by decide) rfl rfl ?_
      refine x_iload_n hO dX1_copyFrom_41 rfl rfl ?_
      refine x_iald hO (by decide) rfl (by decide) (rfl) (hi) dX1_copyFrom_42 ?_
      refine x_iast hO (by decide) rfl (by decide) (rfl) (hi) dX1_copyFrom_43 ?_
      refine x_aload_n hO dX1_copyFrom_44 rfl rfl ?_
      refine x_getR (T := TX1) (j := 3) hO dX1_copyFrom_45 flX1_21 (by decide) rfl rfl (by decide) rfl rfl ?_
      refine x_iload_n hO dX1_copyFrom_48 rfl rfl ?_
      refine x_aload_n hO dX1_copyFrom_49 rfl rfl ?_
      refine x_getR (T := TX1) (j := 3) hO dX1_copyFrom_50 flX1_21 (by decide) rfl rfl (by decide) rfl rfl ?_
      refine x_iload_n hO dX1_copyFrom_53 rfl rfl ?_
      refine x_iald hO (by decide) rfl (by decide) (rfl) (hi) dX1_copyFrom_54 ?_
      refine x_iast hO (by decide) rfl (by decide) (rfl) (hi) dX1_copyFrom_55 ?_
      refine x_aload_n hO dX1_copyFrom_56 rfl rfl ?_
      refine x_getR (T := TX1) (j := 4) hO dX1_copyFrom_57 flX1_24 (by decide) rfl rfl (by decide) rfl rfl ?_
      refine x_iload_n hO dX1_copyFrom_60 rfl rfl ?_
      refine x_aload_n hO dX1_copyFrom_61 rfl rfl ?_
      refine x_getR (T := TX1) (j := 4) hO dX1_copyFrom_62 flX1_24 (by decide) rfl rfl (by decide) rfl rfl ?_
      refine x_iload_n hO dX1_copyFrom_65 rfl rfl ?_
      refine x_iald hO (by decide) rfl (by decide) (rfl) (hi) dX1_copyFrom_66 ?_
      refine x_iast hO (by decide) rfl (by decide) (rfl) (hi) dX1_copyFrom_67 ?_
      refine x_aload_n hO dX1_copyFrom_68 rfl rfl ?_
      refine x_getR (T := TX1) (j := 5) hO dX1_copyFrom_69 flX1_27 (by decide) rfl rfl (by decide) rfl rfl ?_
      refine x_iload_n hO dX1_copyFrom_72 rfl rfl ?_
      refine x_aload_n hO dX1_copyFrom_73 rfl rfl ?_
      refine x_getR (T := TX1) (j := 5) hO dX1_copyFrom_74 flX1_27 (by decide) rfl rfl (by decide) rfl rfl ?_
      refine x_iload_n hO dX1_copyFrom_77 rfl rfl ?_
      refine x_iald hO (by decide) rfl (by decide) (rfl) (hi) dX1_copyFrom_78 ?_
      refine x_iast hO (by decide) rfl (by decide) (rfl) (hi) dX1_copyFrom_79 ?_
      refine x_aload_n hO dX1_copyFrom_80 rfl rfl ?_
      refine x_getR (T := TX1) (j := 6) hO dX1_copyFrom_81 flX1_30 (by decide) rfl rfl (by decide) rfl rfl ?_
      refine x_iload_n hO dX1_copyFrom_84 rfl rfl ?_
      refine x_aload_n hO dX1_copyFrom_85 rfl rfl ?_
      refine x_getR (T := TX1) (j := 6) hO dX1_copyFrom_86 flX1_30 (by decide) rfl rfl (by decide) rfl rfl ?_
      refine x_iload_n hO dX1_copyFrom_89 rfl rfl ?_
      refine x_iald hO (by decide) rfl (by decide) (rfl) (hi) dX1_copyFrom_90 ?_
      refine x_iast hO (by decide) rfl (by decide) (rfl) (hi) dX1_copyFrom_91 ?_
      refine x_iinc hO dX1_copyFrom_92 rfl (by first | exact xinc_n _ | rfl) rfl hN ?_
      refine x_goto (tgt := 2) hO dX1_copyFrom_95 (by decide) ?_
      refine ih _ (cpR_s h1 (all7 ?_ ?_ ?_ ?_ ?_ ?_ ?_) (all7 ?_ ?_ ?_ ?_ ?_ ?_ ?_) (fun k hk => ?_))
      all_goals first
        | (simp [xset_at, g41, g42, g43, g44, g45, g46, g47]; done)
        | (intro s hs; simp [xset_at, hs]; done)
        | skip
      have h17 : ¬ k = 17 := by omega
      have h18 : ¬ k = 18 := by omega
      have h19 : ¬ k = 19 := by omega
      have h20 : ¬ k = 20 := by omega
      have h21 : ¬ k = 21 := by omega
      have h22 : ¬ k = 22 := by omega
      have h23 : ¬ k = 23 := by omega
      funext a
      simp [xset_at, h17, h18, h19, h20, h21, h22, h23]
theorem k_copyFrom_16_48 (U : xP) (M : xM) : xMetV U mX1_copyFrom [.inr 16, .inr 48] M (fun M' => cpSt M M' 16 48) := by
  refine xMetV.of (L := [some (.inr 16), some (.inr 48), none]) fX1_copyFrom rfl rfl (Nat.le_of_ble_eq_true rfl) (fun G hN hO hR => ?_)
  have hN : G.2.2.2.2.2.2.2.2.2.2.1 = 3 := hN
  have hO : xOK U G RX1 cX1_copyFrom 0 := hO
  refine x_iconst (v := nI 0) hO dX1_copyFrom_0 rfl ?_
  refine x_istore_n (n := 3) hO dX1_copyFrom_1 rfl rfl (by decide) hN ?_
  refine upd_ind (P := fun i _ => ∀ M1, cpR M M1 16 48 i → XW U G 2 [some (.inr 16), some (.inr 48), some (.inl (nI i))] [] M1) 32 ?_ ?_ 32 0 rfl M ⟨fun w _ s hs => by omega, fun k _ => rfl⟩
  · intro M1 h1
    refine x_iload_n hO dX1_copyFrom_2 rfl rfl ?_
    refine x_bipush (v := nI 32) hO dX1_copyFrom_3 rfl ?_
    refine x_icmp_ge (tgt := 98) hO dX1_copyFrom_5 (by decide) (fun c => ?_) (fun c => ?_)
    · refine x_aload_n hO dX1_copyFrom_98 rfl rfl ?_
      refine x_aload_n hO dX1_copyFrom_99 rfl rfl ?_
      refine x_getI (T := TX1) (j := 7) hO dX1_copyFrom_100 flX1_33 (by decide) rfl rfl (by decide) rfl rfl ?_
      refine x_put (T := TX1) (j := 7) (ty := .int) hO dX1_copyFrom_103 flX1_33 (by decide) rfl rfl (by decide) rfl rfl rfl (by decide +kernel) rfl rfl ?_
      refine x_aload_n hO dX1_copyFrom_106 rfl rfl ?_
      refine x_aload_n hO dX1_copyFrom_107 rfl rfl ?_
      refine x_getI (T := TX1) (j := 8) hO dX1_copyFrom_108 flX1_37 (by decide) rfl rfl (by decide) rfl rfl ?_
      refine x_put (T := TX1) (j := 8) (ty := .int) hO dX1_copyFrom_111 flX1_37 (by decide) rfl rfl (by decide) rfl rfl rfl (by decide +kernel) rfl rfl ?_
      refine x_aload_n hO dX1_copyFrom_114 rfl rfl ?_
      refine x_aload_n hO dX1_copyFrom_115 rfl rfl ?_
      refine x_getI (T := TX1) (j := 9) hO dX1_copyFrom_116 flX1_40 (by decide) rfl rfl (by decide) rfl rfl ?_
      refine x_put (T := TX1) (j := 9) (ty := .int) hO dX1_copyFrom_119 flX1_40 (by decide) rfl rfl (by decide) rfl rfl rfl (by decide +kernel) rfl rfl ?_
      refine x_aload_n hO dX1_copyFrom_122 rfl rfl ?_
      refine x_aload_n hO dX1_copyFrom_123 rfl rfl ?_
      refine x_getI (T := TX1) (j := 10) hO dX1_copyFrom_124 flX1_43 (by decide) rfl rfl (by decide) rfl rfl ?_
      refine x_put (T := TX1) (j := 10) (ty := .int) hO dX1_copyFrom_127 flX1_43 (by decide) rfl rfl (by decide) rfl rfl rfl (by decide +kernel) rfl rfl ?_
      refine x_aload_n hO dX1_copyFrom_130 rfl rfl ?_
      refine x_aload_n hO dX1_copyFrom_131 rfl rfl ?_
      refine x_getI (T := TX1) (j := 11) hO dX1_copyFrom_132 flX1_46 (by decide) rfl rfl (by decide) rfl rfl ?_
      refine x_put (T := TX1) (j := 11) (ty := .int) hO dX1_copyFrom_135 flX1_46 (by decide) rfl rfl (by decide) rfl rfl rfl (by decide +kernel) rfl rfl ?_
      refine x_vret hO hR dX1_copyFrom_138 ?_
      have gp : M1 16 = M 16 := h1.2 _ (by omega)
      have gq : M1 48 = M 48 := h1.2 _ (by omega)
      refine ⟨cA_ext (fun s hs => ?_) (fun s hs => cA_ge hs), all5 ?_ ?_ ?_ ?_ ?_, fun k hk => ?_⟩
      · refine cA_row hs hs (fun w hw => ?_)
        have e := h1.1 w hw s hs
        have n0 : ¬ 16 + 1 + w = 16 := by omega
        simp only [xset_at, n0, if_false]
        exact e
      · simp [xset_at, gp, gq]
      · simp [xset_at, gp, gq]
      · simp [xset_at, gp, gq]
      · simp [xset_at, gp, gq]
      · simp [xset_at, gp, gq]
      · have n0 : ¬ k = 16 := by omega
        funext a
        simp only [xset_at, n0, if_false]
        rw [h1.2 k (by omega)]
    · exact absurd (Int32.le_refl _) c
  · intro i d hd ih M1 h1
    have hi : i < 32 := by omega
    have g49 : M1 49 = M 49 := h1.2 _ (by omega)
    have g50 : M1 50 = M 50 := h1.2 _ (by omega)
    have g51 : M1 51 = M 51 := h1.2 _ (by omega)
    have g52 : M1 52 = M 52 := h1.2 _ (by omega)
    have g53 : M1 53 = M 53 := h1.2 _ (by omega)
    have g54 : M1 54 = M 54 := h1.2 _ (by omega)
    have g55 : M1 55 = M 55 := h1.2 _ (by omega)
    refine x_iload_n hO dX1_copyFrom_2 rfl rfl ?_
    refine x_bipush (v := nI 32) hO dX1_copyFrom_3 rfl ?_
    refine x_icmp_ge (tgt := 98) hO dX1_copyFrom_5 (by decide) (fun c => ?_) (fun c => ?_)
    · exact absurd c (nI_ge hi (by decide))
    · refine x_aload_n hO dX1_copyFrom_8 rfl rfl ?_
      refine x_getR (T := TX1) (j := 0) hO dX1_copyFrom_9 flX1_9 (by decide) rfl rfl (by decide) rfl rfl ?_
      refine x_iload_n hO dX1_copyFrom_12 rfl rfl ?_
      refine x_aload_n hO dX1_copyFrom_13 rfl rfl ?_
      refine x_getR (T := TX1) (j := 0) hO dX1_copyFrom_14 flX1_9 (by decide) rfl rfl (by decide) rfl rfl ?_
      refine x_iload_n hO dX1_copyFrom_17 rfl rfl ?_
      refine x_iald hO (by decide) rfl (by decide) (rfl) (hi) dX1_copyFrom_18 ?_
      refine x_iast hO (by decide) rfl (by decide) (rfl) (hi) dX1_copyFrom_19 ?_
      refine x_aload_n hO dX1_copyFrom_20 rfl rfl ?_
      refine x_getR (T := TX1) (j := 1) hO dX1_copyFrom_21 flX1_15 (by decide) rfl rfl (by decide) rfl rfl ?_
      refine x_iload_n hO dX1_copyFrom_24 rfl rfl ?_
      refine x_aload_n hO dX1_copyFrom_25 rfl rfl ?_
      refine x_getR (T := TX1) (j := 1) hO dX1_copyFrom_26 flX1_15 (by decide) rfl rfl (by decide) rfl rfl ?_
      refine x_iload_n hO dX1_copyFrom_29 rfl rfl ?_
      refine x_iald hO (by decide) rfl (by decide) (rfl) (hi) dX1_copyFrom_30 ?_
      refine x_iast hO (by decide) rfl (by decide) (rfl) (hi) dX1_copyFrom_31 ?_
      refine x_aload_n hO dX1_copyFrom_32 rfl rfl ?_
      refine x_getR (T := TX1) (j := 2) hO dX1_copyFrom_33 flX1_18 (by decide) rfl rfl (by decide) rfl rfl ?_
      refine x_iload_n hO dX1_copyFrom_36 rfl rfl ?_
      refine x_aload_n hO dX1_copyFrom_37 rfl rfl ?_
      refine x_getR (T := TX1) (j := 2) hO dX1_copyFrom_38 flX1_18 (by decide) rfl rfl (by decide) rfl rfl ?_
      refine x_iload_n hO dX1_copyFrom_41 rfl rfl ?_
      refine x_iald hO (by decide) rfl (by decide) (rfl) (hi) dX1_copyFrom_42 ?_
      refine x_iast hO (by decide) rfl (by decide) (rfl) (hi) dX1_copyFrom_43 ?_
      refine x_aload_n hO dX1_copyFrom_44 rfl rfl ?_
      refine x_getR (T := TX1) (j := 3) hO dX1_copyFrom_45 flX1_21 (by decide) rfl rfl (by decide) rfl rfl ?_
      refine x_iload_n hO dX1_copyFrom_48 rfl rfl ?_
      refine x_aload_n hO dX1_copyFrom_49 rfl rfl ?_
      refine x_getR (T := TX1) (j := 3) hO dX1_copyFrom_50 flX1_21 (by decide) rfl rfl (by decide) rfl rfl ?_
      refine x_iload_n hO dX1_copyFrom_53 rfl rfl ?_
      refine x_iald hO (by decide) rfl (by decide) (rfl) (hi) dX1_copyFrom_54 ?_
      refine x_iast hO (by decide) rfl (by decide) (rfl) (hi) dX1_copyFrom_55 ?_
      refine x_aload_n hO dX1_copyFrom_56 rfl rfl ?_
      refine x_getR (T := TX1) (j := 4) hO dX1_copyFrom_57 flX1_24 (by decide) rfl rfl (by decide) rfl rfl ?_
      refine x_iload_n hO dX1_copyFrom_60 rfl rfl ?_
      refine x_aload_n hO dX1_copyFrom_61 rfl rfl ?_
      refine x_getR (T := TX1) (j := 4) hO dX1_copyFrom_62 flX1_24 (by decide) rfl rfl (by decide) rfl rfl ?_
      refine x_iload_n hO dX1_copyFrom_65 rfl rfl ?_
      refine x_iald hO (by decide) rfl (by decide) (rfl) (hi) dX1_copyFrom_66 ?_
      refine x_iast hO (by decide) rfl (by decide) (rfl) (hi) dX1_copyFrom_67 ?_
      refine x_aload_n hO dX1_copyFrom_68 rfl rfl ?_
      refine x_getR (T := TX1) (j := 5) hO dX1_copyFrom_69 flX1_27 (by decide) rfl rfl (by decide) rfl rfl ?_
      refine x_iload_n hO dX1_copyFrom_72 rfl rfl ?_
      refine x_aload_n hO dX1_copyFrom_73 rfl rfl ?_
      refine x_getR (T := TX1) (j := 5) hO dX1_copyFrom_74 flX1_27 (by decide) rfl rfl (by decide) rfl rfl ?_
      refine x_iload_n hO dX1_copyFrom_77 rfl rfl ?_
      refine x_iald hO (by decide) rfl (by decide) (rfl) (hi) dX1_copyFrom_78 ?_
      refine x_iast hO (by decide) rfl (by decide) (rfl) (hi) dX1_copyFrom_79 ?_
      refine x_aload_n hO dX1_copyFrom_80 rfl rfl ?_
      refine x_getR (T := TX1) (j := 6) hO dX1_copyFrom_81 flX1_30 (by decide) rfl rfl (by decide) rfl rfl ?_
      refine x_iload_n hO dX1_copyFrom_84 rfl rfl ?_
      refine x_aload_n hO dX1_copyFrom_85 rfl rfl ?_
      refine x_getR (T := TX1) (j := 6) hO dX1_copyFrom_86 flX1_30 (by decide) rfl rfl (by decide) rfl rfl ?_
      refine x_iload_n hO dX1_copyFrom_89 rfl rfl ?_
      refine x_iald hO (by decide) rfl (by decide) (rfl) (hi) dX1_copyFrom_90 ?_
      refine x_iast hO (by decide) rfl (by decide) (rfl) (hi) dX1_copyFrom_91 ?_
      refine x_iinc hO dX1_copyFrom_92 rfl (by first | exact xinc_n _ | rfl) rfl hN ?_
      refine x_goto (tgt := 2) hO dX1_copyFrom_95 (by decide) ?_
      refine ih _ (cpR_s h1 (all7 ?_ ?_ ?_ ?_ ?_ ?_ ?_) (all7 ?_ ?_ ?_ ?_ ?_ ?_ ?_) (fun k hk => ?_))
      all_goals first
        | (simp [xset_at, g49, g50, g51, g52, g53, g54, g55]; done)
        | (intro s hs; simp [xset_at, hs]; done)
        | skip
      have h17 : ¬ k = 17 := by omega
      have h18 : ¬ k = 18 := by omega
      have h19 : ¬ k = 19 := by omega
      have h20 : ¬ k = 20 := by omega
      have h21 : ¬ k = 21 := by omega
      have h22 : ¬ k = 22 := by omega
      have h23 : ¬ k = 23 := by omega
      funext a
      simp [xset_at, h17, h18, h19, h20, h21, h22, h23]
theorem k_copyFrom_16_56 (U : xP) (M : xM) : xMetV U mX1_copyFrom [.inr 16, .inr 56] M (fun M' => cpSt M M' 16 56) := by
  refine xMetV.of (L := [some (.inr 16), some (.inr 56), none]) fX1_copyFrom rfl rfl (Nat.le_of_ble_eq_true rfl) (fun G hN hO hR => ?_)
  have hN : G.2.2.2.2.2.2.2.2.2.2.1 = 3 := hN
  have hO : xOK U G RX1 cX1_copyFrom 0 := hO
  refine x_iconst (v := nI 0) hO dX1_copyFrom_0 rfl ?_
  refine x_istore_n (n := 3) hO dX1_copyFrom_1 rfl rfl (by decide) hN ?_
  refine upd_ind (P := fun i _ => ∀ M1, cpR M M1 16 56 i → XW U G 2 [some (.inr 16), some (.inr 56), some (.inl (nI i))] [] M1) 32 ?_ ?_ 32 0 rfl M ⟨fun w _ s hs => by omega, fun k _ => rfl⟩
  · intro M1 h1
    refine x_iload_n hO dX1_copyFrom_2 rfl rfl ?_
    refine x_bipush (v := nI 32) hO dX1_copyFrom_3 rfl ?_
    refine x_icmp_ge (tgt := 98) hO dX1_copyFrom_5 (by decide) (fun c => ?_) (fun c => ?_)
    · refine x_aload_n hO dX1_copyFrom_98 rfl rfl ?_
      refine x_aload_n hO dX1_copyFrom_99 rfl rfl ?_
      refine x_getI (T := TX1) (j := 7) hO dX1_copyFrom_100 flX1_33 (by decide) rfl rfl (by decide) rfl rfl ?_
      refine x_put (T := TX1) (j := 7) (ty := .int) hO dX1_copyFrom_103 flX1_33 (by decide) rfl rfl (by decide) rfl rfl rfl (by decide +kernel) rfl rfl ?_
      refine x_aload_n hO dX1_copyFrom_106 rfl rfl ?_
      refine x_aload_n hO dX1_copyFrom_107 rfl rfl ?_
      refine x_getI (T := TX1) (j := 8) hO dX1_copyFrom_108 flX1_37 (by decide) rfl rfl (by decide) rfl rfl ?_
      refine x_put (T := TX1) (j := 8) (ty := .int) hO dX1_copyFrom_111 flX1_37 (by decide) rfl rfl (by decide) rfl rfl rfl (by decide +kernel) rfl rfl ?_
      refine x_aload_n hO dX1_copyFrom_114 rfl rfl ?_
      refine x_aload_n hO dX1_copyFrom_115 rfl rfl ?_
      refine x_getI (T := TX1) (j := 9) hO dX1_copyFrom_116 flX1_40 (by decide) rfl rfl (by decide) rfl rfl ?_
      refine x_put (T := TX1) (j := 9) (ty := .int) hO dX1_copyFrom_119 flX1_40 (by decide) rfl rfl (by decide) rfl rfl rfl (by decide +kernel) rfl rfl ?_
      refine x_aload_n hO dX1_copyFrom_122 rfl rfl ?_
      refine x_aload_n hO dX1_copyFrom_123 rfl rfl ?_
      refine x_getI (T := TX1) (j := 10) hO dX1_copyFrom_124 flX1_43 (by decide) rfl rfl (by decide) rfl rfl ?_
      refine x_put (T := TX1) (j := 10) (ty := .int) hO dX1_copyFrom_127 flX1_43 (by decide) rfl rfl (by decide) rfl rfl rfl (by decide +kernel) rfl rfl ?_
      refine x_aload_n hO dX1_copyFrom_130 rfl rfl ?_
      refine x_aload_n hO dX1_copyFrom_131 rfl rfl ?_
      refine x_getI (T := TX1) (j := 11) hO dX1_copyFrom_132 flX1_46 (by decide) rfl rfl (by decide) rfl rfl ?_
      refine x_put (T := TX1) (j := 11) (ty := .int) hO dX1_copyFrom_135 flX1_46 (by decide) rfl rfl (by decide) rfl rfl rfl (by decide +kernel) rfl rfl ?_
      refine x_vret hO hR dX1_copyFrom_138 ?_
      have gp : M1 16 = M 16 := h1.2 _ (by omega)
      have gq : M1 56 = M 56 := h1.2 _ (by omega)
      refine ⟨cA_ext (fun s hs => ?_) (fun s hs => cA_ge hs), all5 ?_ ?_ ?_ ?_ ?_, fun k hk => ?_⟩
      · refine cA_row hs hs (fun w hw => ?_)
        have e := h1.1 w hw s hs
        have n0 : ¬ 16 + 1 + w = 16 := by omega
        simp only [xset_at, n0, if_false]
        exact e
      · simp [xset_at, gp, gq]
      · simp [xset_at, gp, gq]
      · simp [xset_at, gp, gq]
      · simp [xset_at, gp, gq]
      · simp [xset_at, gp, gq]
      · have n0 : ¬ k = 16 := by omega
        funext a
        simp only [xset_at, n0, if_false]
        rw [h1.2 k (by omega)]
    · exact absurd (Int32.le_refl _) c
  · intro i d hd ih M1 h1
    have hi : i < 32 := by omega
    have g57 : M1 57 = M 57 := h1.2 _ (by omega)
    have g58 : M1 58 = M 58 := h1.2 _ (by omega)
    have g59 : M1 59 = M 59 := h1.2 _ (by omega)
    have g60 : M1 60 = M 60 := h1.2 _ (by omega)
    have g61 : M1 61 = M 61 := h1.2 _ (by omega)
    have g62 : M1 62 = M 62 := h1.2 _ (by omega)
    have g63 : M1 63 = M 63 := h1.2 _ (by omega)
    refine x_iload_n hO dX1_copyFrom_2 rfl rfl ?_
    refine x_bipush (v := nI 32) hO dX1_copyFrom_3 rfl ?_
    refine x_icmp_ge (tgt := 98) hO dX1_copyFrom_5 (by decide) (fun c => ?_) (fun c => ?_)
    · exact absurd c (nI_ge hi (by decide))
    · refine x_aload_n hO dX1_copyFrom_8 rfl rfl ?_
      refine x_getR (T := TX1) (j := 0) hO dX1_copyFrom_9 flX1_9 (by decide) rfl rfl (by decide) rfl rfl ?_
      refine x_iload_n hO dX1_copyFrom_12 rfl rfl ?_
      refine x_aload_n hO dX1_copyFrom_13 rfl rfl ?_
      refine x_getR (T := TX1) (j := 0) hO dX1_copyFrom_14 flX1_9 (by decide) rfl rfl (by decide) rfl rfl ?_
      refine x_iload_n hO dX1_copyFrom_17 rfl rfl ?_
      refine x_iald hO (by decide) rfl (by decide) (rfl) (hi) dX1_copyFrom_18 ?_
      refine x_iast hO (by decide) rfl (by decide) (rfl) (hi) dX1_copyFrom_19 ?_
      refine x_aload_n hO dX1_copyFrom_20 rfl rfl ?_
      refine x_getR (T := TX1) (j := 1) hO dX1_copyFrom_21 flX1_15 (by decide) rfl rfl (by decide) rfl rfl ?_
      refine x_iload_n hO dX1_copyFrom_24 rfl rfl ?_
      refine x_aload_n hO dX1_copyFrom_25 rfl rfl ?_
      refine x_getR (T := TX1) (j := 1) hO dX1_copyFrom_26 flX1_15 (by decide) rfl rfl (by decide) rfl rfl ?_
      refine x_iload_n hO dX1_copyFrom_29 rfl rfl ?_
      refine x_iald hO (by decide) rfl (by decide) (rfl) (hi) dX1_copyFrom_30 ?_
      refine x_iast hO (by decide) rfl (by decide) (rfl) (hi) dX1_copyFrom_31 ?_
      refine x_aload_n hO dX1_copyFrom_32 rfl rfl ?_
      refine x_getR (T := TX1) (j := 2) hO dX1_copyFrom_33 flX1_18 (by decide) rfl rfl (by decide) rfl rfl ?_
      refine x_iload_n hO dX1_copyFrom_36 rfl rfl ?_
      refine x_aload_n hO dX1_copyFrom_37 rfl rfl ?_
      refine x_getR (T := TX1) (j := 2) hO dX1_copyFrom_38 flX1_18 (by decide) rfl rfl (by decide) rfl rfl ?_
      refine x_iload_n hO dX1_copyFrom_41 rfl rfl ?_
      refine x_iald hO (by decide) rfl (by decide) (rfl) (hi) dX1_copyFrom_42 ?_
      refine x_iast hO (by decide) rfl (by decide) (rfl) (hi) dX1_copyFrom_43 ?_
      refine x_aload_n hO dX1_copyFrom_44 rfl rfl ?_
      refine x_getR (T := TX1) (j := 3) hO dX1_copyFrom_45 flX1_21 (by decide) rfl rfl (by decide) rfl rfl ?_
      refine x_iload_n hO dX1_copyFrom_48 rfl rfl ?_
      refine x_aload_n hO dX1_copyFrom_49 rfl rfl ?_
      refine x_getR (T := TX1) (j := 3) hO dX1_copyFrom_50 flX1_21 (by decide) rfl rfl (by decide) rfl rfl ?_
      refine x_iload_n hO dX1_copyFrom_53 rfl rfl ?_
      refine x_iald hO (by decide) rfl (by decide) (rfl) (hi) dX1_copyFrom_54 ?_
      refine x_iast hO (by decide) rfl (by decide) (rfl) (hi) dX1_copyFrom_55 ?_
      refine x_aload_n hO dX1_copyFrom_56 rfl rfl ?_
      refine x_getR (T := TX1) (j := 4) hO dX1_copyFrom_57 flX1_24 (by decide) rfl rfl (by decide) rfl rfl ?_
      refine x_iload_n hO dX1_copyFrom_60 rfl rfl ?_
      refine x_aload_n hO dX1_copyFrom_61 rfl rfl ?_
      refine x_getR (T := TX1) (j := 4) hO dX1_copyFrom_62 flX1_24 (by decide) rfl rfl (by decide) rfl rfl ?_
      refine x_iload_n hO dX1_copyFrom_65 rfl rfl ?_
      refine x_iald hO (by decide) rfl (by decide) (rfl) (hi) dX1_copyFrom_66 ?_
      refine x_iast hO (by decide) rfl (by decide) (rfl) (hi) dX1_copyFrom_67 ?_
      refine x_aload_n hO dX1_copyFrom_68 rfl rfl ?_
      refine x_getR (T := TX1) (j := 5) hO dX1_copyFrom_69 flX1_27 (by decide) rfl rfl (by decide) rfl rfl ?_
      refine x_iload_n hO dX1_copyFrom_72 rfl rfl ?_
      refine x_aload_n hO dX1_copyFrom_73 rfl rfl ?_
      refine x_getR (T := TX1) (j := 5) hO dX1_copyFrom_74 flX1_27 (by decide) rfl rfl (by decide) rfl rfl ?_
      refine x_iload_n hO dX1_copyFrom_77 rfl rfl ?_
      refine x_iald hO (by decide) rfl (by decide) (rfl) (hi) dX1_copyFrom_78 ?_
      refine x_iast hO (by decide) rfl (by decide) (rfl) (hi) dX1_copyFrom_79 ?_
      refine x_aload_n hO dX1_copyFrom_80 rfl rfl ?_
      refine x_getR (T := TX1) (j := 6) hO dX1_copyFrom_81 flX1_30 (by decide) rfl rfl (by decide) rfl rfl ?_
      refine x_iload_n hO dX1_copyFrom_84 rfl rfl ?_
      refine x_aload_n hO dX1_copyFrom_85 rfl rfl ?_
      refine x_getR (T := TX1) (j := 6) hO dX1_copyFrom_86 flX1_30 (by decide) rfl rfl (by decide) rfl rfl ?_
      refine x_iload_n hO dX1_copyFrom_89 rfl rfl ?_
      refine x_iald hO (by decide) rfl (by decide) (rfl) (hi) dX1_copyFrom_90 ?_
      refine x_iast hO (by decide) rfl (by decide) (rfl) (hi) dX1_copyFrom_91 ?_
      refine x_iinc hO dX1_copyFrom_92 rfl (by first | exact xinc_n _ | rfl) rfl hN ?_
      refine x_goto (tgt := 2) hO dX1_copyFrom_95 (by decide) ?_
      refine ih _ (cpR_s h1 (all7 ?_ ?_ ?_ ?_ ?_ ?_ ?_) (all7 ?_ ?_ ?_ ?_ ?_ ?_ ?_) (fun k hk => ?_))
      all_goals first
        | (simp [xset_at, g57, g58, g59, g60, g61, g62, g63]; done)
        | (intro s hs; simp [xset_at, hs]; done)
        | skip
      have h17 : ¬ k = 17 := by omega
      have h18 : ¬ k = 18 := by omega
      have h19 : ¬ k = 19 := by omega
      have h20 : ¬ k = 20 := by omega
      have h21 : ¬ k = 21 := by omega
      have h22 : ¬ k = 22 := by omega
      have h23 : ¬ k = 23 := by omega
      funext a
      simp [xset_at, h17, h18, h19, h20, h21, h22, h23]
theorem k_copyFrom_24_16 (U : xP) (M : xM) : xMetV U mX1_copyFrom [.inr 24, .inr 16] M (fun M' => cpSt M M' 24 16) := by
  refine xMetV.of (L := [some (.inr 24), some (.inr 16), none]) fX1_copyFrom rfl rfl (Nat.le_of_ble_eq_true rfl) (fun G hN hO hR => ?_)
  have hN : G.2.2.2.2.2.2.2.2.2.2.1 = 3 := hN
  have hO : xOK U G RX1 cX1_copyFrom 0 := hO
  refine x_iconst (v := nI 0) hO dX1_copyFrom_0 rfl ?_
  refine x_istore_n (n := 3) hO dX1_copyFrom_1 rfl rfl (by decide) hN ?_
  refine upd_ind (P := fun i _ => ∀ M1, cpR M M1 24 16 i → XW U G 2 [some (.inr 24), some (.inr 16), some (.inl (nI i))] [] M1) 32 ?_ ?_ 32 0 rfl M ⟨fun w _ s hs => by omega, fun k _ => rfl⟩
  · intro M1 h1
    refine x_iload_n hO dX1_copyFrom_2 rfl rfl ?_
    refine x_bipush (v := nI 32) hO dX1_copyFrom_3 rfl ?_
    refine x_icmp_ge (tgt := 98) hO dX1_copyFrom_5 (by decide) (fun c => ?_) (fun c => ?_)
    · refine x_aload_n hO dX1_copyFrom_98 rfl rfl ?_
      refine x_aload_n hO dX1_copyFrom_99 rfl rfl ?_
      refine x_getI (T := TX1) (j := 7) hO dX1_copyFrom_100 flX1_33 (by decide) rfl rfl (by decide) rfl rfl ?_
      refine x_put (T := TX1) (j := 7) (ty := .int) hO dX1_copyFrom_103 flX1_33 (by decide) rfl rfl (by decide) rfl rfl rfl (by decide +kernel) rfl rfl ?_
      refine x_aload_n hO dX1_copyFrom_106 rfl rfl ?_
      refine x_aload_n hO dX1_copyFrom_107 rfl rfl ?_
      refine x_getI (T := TX1) (j := 8) hO dX1_copyFrom_108 flX1_37 (by decide) rfl rfl (by decide) rfl rfl ?_
      refine x_put (T := TX1) (j := 8) (ty := .int) hO dX1_copyFrom_111 flX1_37 (by decide) rfl rfl (by decide) rfl rfl rfl (by decide +kernel) rfl rfl ?_
      refine x_aload_n hO dX1_copyFrom_114 rfl rfl ?_
      refine x_aload_n hO dX1_copyFrom_115 rfl rfl ?_
      refine x_getI (T := TX1) (j := 9) hO dX1_copyFrom_116 flX1_40 (by decide) rfl rfl (by decide) rfl rfl ?_
      refine x_put (T := TX1) (j := 9) (ty := .int) hO dX1_copyFrom_119 flX1_40 (by decide) rfl rfl (by decide) rfl rfl rfl (by decide +kernel) rfl rfl ?_
      refine x_aload_n hO dX1_copyFrom_122 rfl rfl ?_
      refine x_aload_n hO dX1_copyFrom_123 rfl rfl ?_
      refine x_getI (T := TX1) (j := 10) hO dX1_copyFrom_124 flX1_43 (by decide) rfl rfl (by decide) rfl rfl ?_
      refine x_put (T := TX1) (j := 10) (ty := .int) hO dX1_copyFrom_127 flX1_43 (by decide) rfl rfl (by decide) rfl rfl rfl (by decide +kernel) rfl rfl ?_
      refine x_aload_n hO dX1_copyFrom_130 rfl rfl ?_
      refine x_aload_n hO dX1_copyFrom_131 rfl rfl ?_
      refine x_getI (T := TX1) (j := 11) hO dX1_copyFrom_132 flX1_46 (by decide) rfl rfl (by decide) rfl rfl ?_
      refine x_put (T := TX1) (j := 11) (ty := .int) hO dX1_copyFrom_135 flX1_46 (by decide) rfl rfl (by decide) rfl rfl rfl (by decide +kernel) rfl rfl ?_
      refine x_vret hO hR dX1_copyFrom_138 ?_
      have gp : M1 24 = M 24 := h1.2 _ (by omega)
      have gq : M1 16 = M 16 := h1.2 _ (by omega)
      refine ⟨cA_ext (fun s hs => ?_) (fun s hs => cA_ge hs), all5 ?_ ?_ ?_ ?_ ?_, fun k hk => ?_⟩
      · refine cA_row hs hs (fun w hw => ?_)
        have e := h1.1 w hw s hs
        have n0 : ¬ 24 + 1 + w = 24 := by omega
        simp only [xset_at, n0, if_false]
        exact e
      · simp [xset_at, gp, gq]
      · simp [xset_at, gp, gq]
      · simp [xset_at, gp, gq]
      · simp [xset_at, gp, gq]
      · simp [xset_at, gp, gq]
      · have n0 : ¬ k = 24 := by omega
        funext a
        simp only [xset_at, n0, if_false]
        rw [h1.2 k (by omega)]
    · exact absurd (Int32.le_refl _) c
  · intro i d hd ih M1 h1
    have hi : i < 32 := by omega
    have g17 : M1 17 = M 17 := h1.2 _ (by omega)
    have g18 : M1 18 = M 18 := h1.2 _ (by omega)
    have g19 : M1 19 = M 19 := h1.2 _ (by omega)
    have g20 : M1 20 = M 20 := h1.2 _ (by omega)
    have g21 : M1 21 = M 21 := h1.2 _ (by omega)
    have g22 : M1 22 = M 22 := h1.2 _ (by omega)
    have g23 : M1 23 = M 23 := h1.2 _ (by omega)
    refine x_iload_n hO dX1_copyFrom_2 rfl rfl ?_
    refine x_bipush (v := nI 32) hO dX1_copyFrom_3 rfl ?_
    refine x_icmp_ge (tgt := 98) hO dX1_copyFrom_5 (by decide) (fun c => ?_) (fun c => ?_)
    · exact absurd c (nI_ge hi (by decide))
    · refine x_aload_n hO dX1_copyFrom_8 rfl rfl ?_
      refine x_getR (T := TX1) (j := 0) hO dX1_copyFrom_9 flX1_9 (by decide) rfl rfl (by decide) rfl rfl ?_
      refine x_iload_n hO dX1_copyFrom_12 rfl rfl ?_
      refine x_aload_n hO dX1_copyFrom_13 rfl rfl ?_
      refine x_getR (T := TX1) (j := 0) hO dX1_copyFrom_14 flX1_9 (by decide) rfl rfl (by decide) rfl rfl ?_
      refine x_iload_n hO dX1_copyFrom_17 rfl rfl ?_
      refine x_iald hO (by decide) rfl (by decide) (rfl) (hi) dX1_copyFrom_18 ?_
      refine x_iast hO (by decide) rfl (by decide) (rfl) (hi) dX1_copyFrom_19 ?_
      refine x_aload_n hO dX1_copyFrom_20 rfl rfl ?_
      refine x_getR (T := TX1) (j := 1) hO dX1_copyFrom_21 flX1_15 (by decide) rfl rfl (by decide) rfl rfl ?_
      refine x_iload_n hO dX1_copyFrom_24 rfl rfl ?_
      refine x_aload_n hO dX1_copyFrom_25 rfl rfl ?_
      refine x_getR (T := TX1) (j := 1) hO dX1_copyFrom_26 flX1_15 (by decide) rfl rfl (by decide) rfl rfl ?_
      refine x_iload_n hO dX1_copyFrom_29 rfl rfl ?_
      refine x_iald hO (by decide) rfl (by decide) (rfl) (hi) dX1_copyFrom_30 ?_
      refine x_iast hO (by decide) rfl (by decide) (rfl) (hi) dX1_copyFrom_31 ?_
      refine x_aload_n hO dX1_copyFrom_32 rfl rfl ?_
      refine x_getR (T := TX1) (j := 2) hO dX1_copyFrom_33 flX1_18 (by decide) rfl rfl (by decide) rfl rfl ?_
      refine x_iload_n hO dX1_copyFrom_36 rfl rfl ?_
      refine x_aload_n hO dX1_copyFrom_37 rfl rfl ?_
      refine x_getR (T := TX1) (j := 2) hO dX1_copyFrom_38 flX1_18 (by decide) rfl rfl (by decide) rfl rfl ?_
      refine x_iload_n hO dX1_copyFrom_41 rfl rfl ?_
      refine x_iald hO (by decide) rfl (by decide) (rfl) (hi) dX1_copyFrom_42 ?_
      refine x_iast hO (by decide) rfl (by decide) (rfl) (hi) dX1_copyFrom_43 ?_
      refine x_aload_n hO dX1_copyFrom_44 rfl rfl ?_
      refine x_getR (T := TX1) (j := 3) hO dX1_copyFrom_45 flX1_21 (by decide) rfl rfl (by decide) rfl rfl ?_
      refine x_iload_n hO dX1_copyFrom_48 rfl rfl ?_
      refine x_aload_n hO dX1_copyFrom_49 rfl rfl ?_
      refine x_getR (T := TX1) (j := 3) hO dX1_copyFrom_50 flX1_21 (by decide) rfl rfl (by decide) rfl rfl ?_
      refine x_iload_n hO dX1_copyFrom_53 rfl rfl ?_
      refine x_iald hO (by decide) rfl (by decide) (rfl) (hi) dX1_copyFrom_54 ?_
      refine x_iast hO (by decide) rfl (by decide) (rfl) (hi) dX1_copyFrom_55 ?_
      refine x_aload_n hO dX1_copyFrom_56 rfl rfl ?_
      refine x_getR (T := TX1) (j := 4) hO dX1_copyFrom_57 flX1_24 (by decide) rfl rfl (by decide) rfl rfl ?_
      refine x_iload_n hO dX1_copyFrom_60 rfl rfl ?_
      refine x_aload_n hO dX1_copyFrom_61 rfl rfl ?_
      refine x_getR (T := TX1) (j := 4) hO dX1_copyFrom_62 flX1_24 (by decide) rfl rfl (by decide) rfl rfl ?_
      refine x_iload_n hO dX1_copyFrom_65 rfl rfl ?_
      refine x_iald hO (by decide) rfl (by decide) (rfl) (hi) dX1_copyFrom_66 ?_
      refine x_iast hO (by decide) rfl (by decide) (rfl) (hi) dX1_copyFrom_67 ?_
      refine x_aload_n hO dX1_copyFrom_68 rfl rfl ?_
      refine x_getR (T := TX1) (j := 5) hO dX1_copyFrom_69 flX1_27 (by decide) rfl rfl (by decide) rfl rfl ?_
      refine x_iload_n hO dX1_copyFrom_72 rfl rfl ?_
      refine x_aload_n hO dX1_copyFrom_73 rfl rfl ?_
      refine x_getR (T := TX1) (j := 5) hO dX1_copyFrom_74 flX1_27 (by decide) rfl rfl (by decide) rfl rfl ?_
      refine x_iload_n hO dX1_copyFrom_77 rfl rfl ?_
      refine x_iald hO (by decide) rfl (by decide) (rfl) (hi) dX1_copyFrom_78 ?_
      refine x_iast hO (by decide) rfl (by decide) (rfl) (hi) dX1_copyFrom_79 ?_
      refine x_aload_n hO dX1_copyFrom_80 rfl rfl ?_
      refine x_getR (T := TX1) (j := 6) hO dX1_copyFrom_81 flX1_30 (by decide) rfl rfl (by decide) rfl rfl ?_
      refine x_iload_n hO dX1_copyFrom_84 rfl rfl ?_
      refine x_aload_n hO dX1_copyFrom_85 rfl rfl ?_
      refine x_getR (T := TX1) (j := 6) hO dX1_copyFrom_86 flX1_30 (by decide) rfl rfl (by decide) rfl rfl ?_
      refine x_iload_n hO dX1_copyFrom_89 rfl rfl ?_
      refine x_iald hO (by decide) rfl (by decide) (rfl) (hi) dX1_copyFrom_90 ?_
      refine x_iast hO (by decide) rfl (by decide) (rfl) (hi) dX1_copyFrom_91 ?_
      refine x_iinc hO dX1_copyFrom_92 rfl (by first | exact xinc_n _ | rfl) rfl hN ?_
      refine x_goto (tgt := 2) hO dX1_copyFrom_95 (by decide) ?_
      refine ih _ (cpR_s h1 (all7 ?_ ?_ ?_ ?_ ?_ ?_ ?_) (all7 ?_ ?_ ?_ ?_ ?_ ?_ ?_) (fun k hk => ?_))
      all_goals first
        | (simp [xset_at, g17, g18, g19, g20, g21, g22, g23]; done)
        | (intro s hs; simp [xset_at, hs]; done)
        | skip
      have h25 : ¬ k = 25 := by omega
      have h26 : ¬ k = 26 := by omega
      have h27 : ¬ k = 27 := by omega
      have h28 : ¬ k = 28 := by omega
      have h29 : ¬ k = 29 := by omega
      have h30 : ¬ k = 30 := by omega
      have h31 : ¬ k = 31 := by omega
      funext a
      simp [xset_at, h25, h26, h27, h28, h29, h30, h31]
theorem k_copyFrom_32_16 (U : xP) (M : xM) : xMetV U mX1_copyFrom [.inr 32, .inr 16] M (fun M' => cpSt M M' 32 16) := by
  refine xMetV.of (L := [some (.inr 32), some (.inr 16), none]) fX1_copyFrom rfl rfl (Nat.le_of_ble_eq_true rfl) (fun G hN hO hR => ?_)
  have hN : G.2.2.2.2.2.2.2.2.2.2.1 = 3 := hN
  have hO : xOK U G RX1 cX1_copyFrom 0 := hO
  refine x_iconst (v := nI 0) hO dX1_copyFrom_0 rfl ?_
  refine x_istore_n (n := 3) hO dX1_copyFrom_1 rfl rfl (by decide) hN ?_
  refine upd_ind (P := fun i _ => ∀ M1, cpR M M1 32 16 i → XW U G 2 [some (.inr 32), some (.inr 16), some (.inl (nI i))] [] M1) 32 ?_ ?_ 32 0 rfl M ⟨fun w _ s hs => by omega, fun k _ => rfl⟩
  · intro M1 h1
    refine x_iload_n hO dX1_copyFrom_2 rfl rfl ?_
    refine x_bipush (v := nI 32) hO dX1_copyFrom_3 rfl ?_
    refine x_icmp_ge (tgt := 98) hO dX1_copyFrom_5 (by decide) (fun c => ?_) (fun c => ?_)
    · refine x_aload_n hO dX1_copyFrom_98 rfl rfl ?_
      refine x_aload_n hO dX1_copyFrom_99 rfl rfl ?_
      refine x_getI (T := TX1) (j := 7) hO dX1_copyFrom_100 flX1_33 (by decide) rfl rfl (by decide) rfl rfl ?_
      refine x_put (T := TX1) (j := 7) (ty := .int) hO dX1_copyFrom_103 flX1_33 (by decide) rfl rfl (by decide) rfl rfl rfl (by decide +kernel) rfl rfl ?_
      refine x_aload_n hO dX1_copyFrom_106 rfl rfl ?_
      refine x_aload_n hO dX1_copyFrom_107 rfl rfl ?_
      refine x_getI (T := TX1) (j := 8) hO dX1_copyFrom_108 flX1_37 (by decide) rfl rfl (by decide) rfl rfl ?_
      refine x_put (T := TX1) (j := 8) (ty := .int) hO dX1_copyFrom_111 flX1_37 (by decide) rfl rfl (by decide) rfl rfl rfl (by decide +kernel) rfl rfl ?_
      refine x_aload_n hO dX1_copyFrom_114 rfl rfl ?_
      refine x_aload_n hO dX1_copyFrom_115 rfl rfl ?_
      refine x_getI (T := TX1) (j := 9) hO dX1_copyFrom_116 flX1_40 (by decide) rfl rfl (by decide) rfl rfl ?_
      refine x_put (T := TX1) (j := 9) (ty := .int) hO dX1_copyFrom_119 flX1_40 (by decide) rfl rfl (by decide) rfl rfl rfl (by decide +kernel) rfl rfl ?_
      refine x_aload_n hO dX1_copyFrom_122 rfl rfl ?_
      refine x_aload_n hO dX1_copyFrom_123 rfl rfl ?_
      refine x_getI (T := TX1) (j := 10) hO dX1_copyFrom_124 flX1_43 (by decide) rfl rfl (by decide) rfl rfl ?_
      refine x_put (T := TX1) (j := 10) (ty := .int) hO dX1_copyFrom_127 flX1_43 (by decide) rfl rfl (by decide) rfl rfl rfl (by decide +kernel) rfl rfl ?_
      refine x_aload_n hO dX1_copyFrom_130 rfl rfl ?_
      refine x_aload_n hO dX1_copyFrom_131 rfl rfl ?_
      refine x_getI (T := TX1) (j := 11) hO dX1_copyFrom_132 flX1_46 (by decide) rfl rfl (by decide) rfl rfl ?_
      refine x_put (T := TX1) (j := 11) (ty := .int) hO dX1_copyFrom_135 flX1_46 (by decide) rfl rfl (by decide) rfl rfl rfl (by decide +kernel) rfl rfl ?_
      refine x_vret hO hR dX1_copyFrom_138 ?_
      have gp : M1 32 = M 32 := h1.2 _ (by omega)
      have gq : M1 16 = M 16 := h1.2 _ (by omega)
      refine ⟨cA_ext (fun s hs => ?_) (fun s hs => cA_ge hs), all5 ?_ ?_ ?_ ?_ ?_, fun k hk => ?_⟩
      · refine cA_row hs hs (fun w hw => ?_)
        have e := h1.1 w hw s hs
        have n0 : ¬ 32 + 1 + w = 32 := by omega
        simp only [xset_at, n0, if_false]
        exact e
      · simp [xset_at, gp, gq]
      · simp [xset_at, gp, gq]
      · simp [xset_at, gp, gq]
      · simp [xset_at, gp, gq]
      · simp [xset_at, gp, gq]
      · have n0 : ¬ k = 32 := by omega
        funext a
        simp only [xset_at, n0, if_false]
        rw [h1.2 k (by omega)]
    · exact absurd (Int32.le_refl _) c
  · intro i d hd ih M1 h1
    have hi : i < 32 := by omega
    have g17 : M1 17 = M 17 := h1.2 _ (by omega)
    have g18 : M1 18 = M 18 := h1.2 _ (by omega)
    have g19 : M1 19 = M 19 := h1.2 _ (by omega)
    have g20 : M1 20 = M 20 := h1.2 _ (by omega)
    have g21 : M1 21 = M 21 := h1.2 _ (by omega)
    have g22 : M1 22 = M 22 := h1.2 _ (by omega)
    have g23 : M1 23 = M 23 := h1.2 _ (by omega)
    refine x_iload_n hO dX1_copyFrom_2 rfl rfl ?_
    refine x_bipush (v := nI 32) hO dX1_copyFrom_3 rfl ?_
    refine x_icmp_ge (tgt := 98) hO dX1_copyFrom_5 (by decide) (fun c => ?_) (fun c => ?_)
    · exact absurd c (nI_ge hi (by decide))
    · refine x_aload_n hO dX1_copyFrom_8 rfl rfl ?_
      refine x_getR (T := TX1) (j := 0) hO dX1_copyFrom_9 flX1_9 (by decide) rfl rfl (by decide) rfl rfl ?_
      refine x_iload_n hO dX1_copyFrom_12 rfl rfl ?_
      refine x_aload_n hO dX1_copyFrom_13 rfl rfl ?_
      refine x_getR (T := TX1) (j := 0) hO dX1_copyFrom_14 flX1_9 (by decide) rfl rfl (by decide) rfl rfl ?_
      refine x_iload_n hO dX1_copyFrom_17 rfl rfl ?_
      refine x_iald hO (by decide) rfl (by decide) (rfl) (hi) dX1_copyFrom_18 ?_
      refine x_iast hO (by decide) rfl (by decide) (rfl) (hi) dX1_copyFrom_19 ?_
      refine x_aload_n hO dX1_copyFrom_20 rfl rfl ?_
      refine x_getR (T := TX1) (j := 1) hO dX1_copyFrom_21 flX1_15 (by decide) rfl rfl (by decide) rfl rfl ?_
      refine x_iload_n hO dX1_copyFrom_24 rfl rfl ?_
      refine x_aload_n hO dX1_copyFrom_25 rfl rfl ?_
      refine x_getR (T := TX1) (j := 1) hO dX1_copyFrom_26 flX1_15 (by decide) rfl rfl (by decide) rfl rfl ?_
      refine x_iload_n hO dX1_copyFrom_29 rfl rfl ?_
      refine x_iald hO (by decide) rfl (by decide) (rfl) (hi) dX1_copyFrom_30 ?_
      refine x_iast hO (by decide) rfl (by decide) (rfl) (hi) dX1_copyFrom_31 ?_
      refine x_aload_n hO dX1_copyFrom_32 rfl rfl ?_
      refine x_getR (T := TX1) (j := 2) hO dX1_copyFrom_33 flX1_18 (by decide) rfl rfl (by decide) rfl rfl ?_
      refine x_iload_n hO dX1_copyFrom_36 rfl rfl ?_
      refine x_aload_n hO dX1_copyFrom_37 rfl rfl ?_
      refine x_getR (T := TX1) (j := 2) hO dX1_copyFrom_38 flX1_18 (by decide) rfl rfl (by decide) rfl rfl ?_
      refine x_iload_n hO dX1_copyFrom_41 rfl rfl ?_
      refine x_iald hO (by decide) rfl (by decide) (rfl) (hi) dX1_copyFrom_42 ?_
      refine x_iast hO (by decide) rfl (by decide) (rfl) (hi) dX1_copyFrom_43 ?_
      refine x_aload_n hO dX1_copyFrom_44 rfl rfl ?_
      refine x_getR (T := TX1) (j := 3) hO dX1_copyFrom_45 flX1_21 (by decide) rfl rfl (by decide) rfl rfl ?_
      refine x_iload_n hO dX1_copyFrom_48 rfl rfl ?_
      refine x_aload_n hO dX1_copyFrom_49 rfl rfl ?_
      refine x_getR (T := TX1) (j := 3) hO dX1_copyFrom_50 flX1_21 (by decide) rfl rfl (by decide) rfl rfl ?_
      refine x_iload_n hO dX1_copyFrom_53 rfl rfl ?_
      refine x_iald hO (by decide) rfl (by decide) (rfl) (hi) dX1_copyFrom_54 ?_
      refine x_iast hO (by decide) rfl (by decide) (rfl) (hi) dX1_copyFrom_55 ?_
      refine x_aload_n hO dX1_copyFrom_56 rfl rfl ?_
      refine x_getR (T := TX1) (j := 4) hO dX1_copyFrom_57 flX1_24 (by decide) rfl rfl (by decide) rfl rfl ?_
      refine x_iload_n hO dX1_copyFrom_60 rfl rfl ?_
      refine x_aload_n hO dX1_copyFrom_61 rfl rfl ?_
      refine x_getR (T := TX1) (j := 4) hO dX1_copyFrom_62 flX1_24 (by decide) rfl rfl (by decide) rfl rfl ?_
      refine x_iload_n hO dX1_copyFrom_65 rfl rfl ?_
      refine x_iald hO (by decide) rfl (by decide) (rfl) (hi) dX1_copyFrom_66 ?_
      refine x_iast hO (by decide) rfl (by decide) (rfl) (hi) dX1_copyFrom_67 ?_
      refine x_aload_n hO dX1_copyFrom_68 rfl rfl ?_
      refine x_getR (T := TX1) (j := 5) hO dX1_copyFrom_69 flX1_27 (by decide) rfl rfl (by decide) rfl rfl ?_
      refine x_iload_n hO dX1_copyFrom_72 rfl rfl ?_
      refine x_aload_n hO dX1_copyFrom_73 rfl rfl ?_
      refine x_getR (T := TX1) (j := 5) hO dX1_copyFrom_74 flX1_27 (by decide) rfl rfl (by decide) rfl rfl ?_
      refine x_iload_n hO dX1_copyFrom_77 rfl rfl ?_
      refine x_iald hO (by decide) rfl (by decide) (rfl) (hi) dX1_copyFrom_78 ?_
      refine x_iast hO (by decide) rfl (by decide) (rfl) (hi) dX1_copyFrom_79 ?_
      refine x_aload_n hO dX1_copyFrom_80 rfl rfl ?_
      refine x_getR (T := TX1) (j := 6) hO dX1_copyFrom_81 flX1_30 (by decide) rfl rfl (by decide) rfl rfl ?_
      refine x_iload_n hO dX1_copyFrom_84 rfl rfl ?_
      refine x_aload_n hO dX1_copyFrom_85 rfl rfl ?_
      refine x_getR (T := TX1) (j := 6) hO dX1_copyFrom_86 flX1_30 (by decide) rfl rfl (by decide) rfl rfl ?_
      refine x_iload_n hO dX1_copyFrom_89 rfl rfl ?_
      refine x_iald hO (by decide) rfl (by decide) (rfl) (hi) dX1_copyFrom_90 ?_
      refine x_iast hO (by decide) rfl (by decide) (rfl) (hi) dX1_copyFrom_91 ?_
      refine x_iinc hO dX1_copyFrom_92 rfl (by first | exact xinc_n _ | rfl) rfl hN ?_
      refine x_goto (tgt := 2) hO dX1_copyFrom_95 (by decide) ?_
      refine ih _ (cpR_s h1 (all7 ?_ ?_ ?_ ?_ ?_ ?_ ?_) (all7 ?_ ?_ ?_ ?_ ?_ ?_ ?_) (fun k hk => ?_))
      all_goals first
        | (simp [xset_at, g17, g18, g19, g20, g21, g22, g23]; done)
        | (intro s hs; simp [xset_at, hs]; done)
        | skip
      have h33 : ¬ k = 33 := by omega
      have h34 : ¬ k = 34 := by omega
      have h35 : ¬ k = 35 := by omega
      have h36 : ¬ k = 36 := by omega
      have h37 : ¬ k = 37 := by omega
      have h38 : ¬ k = 38 := by omega
      have h39 : ¬ k = 39 := by omega
      funext a
      simp [xset_at, h33, h34, h35, h36, h37, h38, h39]
theorem k_copyFrom_40_16 (U : xP) (M : xM) : xMetV U mX1_copyFrom [.inr 40, .inr 16] M (fun M' => cpSt M M' 40 16) := by
  refine xMetV.of (L := [some (.inr 40), some (.inr 16), none]) fX1_copyFrom rfl rfl (Nat.le_of_ble_eq_true rfl) (fun G hN hO hR => ?_)
  have hN : G.2.2.2.2.2.2.2.2.2.2.1 = 3 := hN
  have hO : xOK U G RX1 cX1_copyFrom 0 := hO
  refine x_iconst (v := nI 0) hO dX1_copyFrom_0 rfl ?_
  refine x_istore_n (n := 3) hO dX1_copyFrom_1 rfl rfl (by decide) hN ?_
  refine upd_ind (P := fun i _ => ∀ M1, cpR M M1 40 16 i → XW U G 2 [some (.inr 40), some (.inr 16), some (.inl (nI i))] [] M1) 32 ?_ ?_ 32 0 rfl M ⟨fun w _ s hs => by omega, fun k _ => rfl⟩
  · intro M1 h1
    refine x_iload_n hO dX1_copyFrom_2 rfl rfl ?_
    refine x_bipush (v := nI 32) hO dX1_copyFrom_3 rfl ?_
    refine x_icmp_ge (tgt := 98) hO dX1_copyFrom_5 (by decide) (fun c => ?_) (fun c => ?_)
    · refine x_aload_n hO dX1_copyFrom_98 rfl rfl ?_
      refine x_aload_n hO dX1_copyFrom_99 rfl rfl ?_
      refine x_getI (T := TX1) (j := 7) hO dX1_copyFrom_100 flX1_33 (by decide) rfl rfl (by decide) rfl rfl ?_
      refine x_put (T := TX1) (j := 7) (ty := .int) hO dX1_copyFrom_103 flX1_33 (by decide) rfl rfl (by decide) rfl rfl rfl (by decide +kernel) rfl rfl ?_
      refine x_aload_n hO dX1_copyFrom_106 rfl rfl ?_
      refine x_aload_n hO dX1_copyFrom_107 rfl rfl ?_
      refine x_getI (T := TX1) (j := 8) hO dX1_copyFrom_108 flX1_37 (by decide) rfl rfl (by decide) rfl rfl ?_
      refine x_put (T := TX1) (j := 8) (ty := .int) hO dX1_copyFrom_111 flX1_37 (by decide) rfl rfl (by decide) rfl rfl rfl (by decide +kernel) rfl rfl ?_
      refine x_aload_n hO dX1_copyFrom_114 rfl rfl ?_
      refine x_aload_n hO dX1_copyFrom_115 rfl rfl ?_
      refine x_getI (T := TX1) (j := 9) hO dX1_copyFrom_116 flX1_40 (by decide) rfl rfl (by decide) rfl rfl ?_
      refine x_put (T := TX1) (j := 9) (ty := .int) hO dX1_copyFrom_119 flX1_40 (by decide) rfl rfl (by decide) rfl rfl rfl (by decide +kernel) rfl rfl ?_
      refine x_aload_n hO dX1_copyFrom_122 rfl rfl ?_
      refine x_aload_n hO dX1_copyFrom_123 rfl rfl ?_
      refine x_getI (T := TX1) (j := 10) hO dX1_copyFrom_124 flX1_43 (by decide) rfl rfl (by decide) rfl rfl ?_
      refine x_put (T := TX1) (j := 10) (ty := .int) hO dX1_copyFrom_127 flX1_43 (by decide) rfl rfl (by decide) rfl rfl rfl (by decide +kernel) rfl rfl ?_
      refine x_aload_n hO dX1_copyFrom_130 rfl rfl ?_
      refine x_aload_n hO dX1_copyFrom_131 rfl rfl ?_
      refine x_getI (T := TX1) (j := 11) hO dX1_copyFrom_132 flX1_46 (by decide) rfl rfl (by decide) rfl rfl ?_
      refine x_put (T := TX1) (j := 11) (ty := .int) hO dX1_copyFrom_135 flX1_46 (by decide) rfl rfl (by decide) rfl rfl rfl (by decide +kernel) rfl rfl ?_
      refine x_vret hO hR dX1_copyFrom_138 ?_
      have gp : M1 40 = M 40 := h1.2 _ (by omega)
      have gq : M1 16 = M 16 := h1.2 _ (by omega)
      refine ⟨cA_ext (fun s hs => ?_) (fun s hs => cA_ge hs), all5 ?_ ?_ ?_ ?_ ?_, fun k hk => ?_⟩
      · refine cA_row hs hs (fun w hw => ?_)
        have e := h1.1 w hw s hs
        have n0 : ¬ 40 + 1 + w = 40 := by omega
        simp only [xset_at, n0, if_false]
        exact e
      · simp [xset_at, gp, gq]
      · simp [xset_at, gp, gq]
      · simp [xset_at, gp, gq]
      · simp [xset_at, gp, gq]
      · simp [xset_at, gp, gq]
      · have n0 : ¬ k = 40 := by omega
        funext a
        simp only [xset_at, n0, if_false]
        rw [h1.2 k (by omega)]
    · exact absurd (Int32.le_refl _) c
  · intro i d hd ih M1 h1
    have hi : i < 32 := by omega
    have g17 : M1 17 = M 17 := h1.2 _ (by omega)
    have g18 : M1 18 = M 18 := h1.2 _ (by omega)
    have g19 : M1 19 = M 19 := h1.2 _ (by omega)
    have g20 : M1 20 = M 20 := h1.2 _ (by omega)
    have g21 : M1 21 = M 21 := h1.2 _ (by omega)
    have g22 : M1 22 = M 22 := h1.2 _ (by omega)
    have g23 : M1 23 = M 23 := h1.2 _ (by omega)
    refine x_iload_n hO dX1_copyFrom_2 rfl rfl ?_
    refine x_bipush (v := nI 32) hO dX1_copyFrom_3 rfl ?_
    refine x_icmp_ge (tgt := 98) hO dX1_copyFrom_5 (by decide) (fun c => ?_) (fun c => ?_)
    · exact absurd c (nI_ge hi (by decide))
    · refine x_aload_n hO dX1_copyFrom_8 rfl rfl ?_
      refine x_getR (T := TX1) (j := 0) hO dX1_copyFrom_9 flX1_9 (by decide) rfl rfl (by decide) rfl rfl ?_
      refine x_iload_n hO dX1_copyFrom_12 rfl rfl ?_
      refine x_aload_n hO dX1_copyFrom_13 rfl rfl ?_
      refine x_getR (T := TX1) (j := 0) hO dX1_copyFrom_14 flX1_9 (by decide) rfl rfl (by decide) rfl rfl ?_
      refine x_iload_n hO dX1_copyFrom_17 rfl rfl ?_
      refine x_iald hO (by decide) rfl (by decide) (rfl) (hi) dX1_copyFrom_18 ?_
      refine x_iast hO (by decide) rfl (by decide) (rfl) (hi) dX1_copyFrom_19 ?_
      refine x_aload_n hO dX1_copyFrom_20 rfl rfl ?_
      refine x_getR (T := TX1) (j := 1) hO dX1_copyFrom_21 flX1_15 (by decide) rfl rfl (by decide) rfl rfl ?_
      refine x_iload_n hO dX1_copyFrom_24 rfl rfl ?_
      refine x_aload_n hO dX1_copyFrom_25 rfl rfl ?_
      refine x_getR (T := TX1) (j := 1) hO dX1_copyFrom_26 flX1_15 (by decide) rfl rfl (by decide) rfl rfl ?_
      refine x_iload_n hO dX1_copyFrom_29 rfl rfl ?_
      refine x_iald hO (by decide) rfl (by decide) (rfl) (hi) dX1_copyFrom_30 ?_
      refine x_iast hO (by decide) rfl (by decide) (rfl) (hi) dX1_copyFrom_31 ?_
      refine x_aload_n hO dX1_copyFrom_32 rfl rfl ?_
      refine x_getR (T := TX1) (j := 2) hO dX1_copyFrom_33 flX1_18 (by decide) rfl rfl (by decide) rfl rfl ?_
      refine x_iload_n hO dX1_copyFrom_36 rfl rfl ?_
      refine x_aload_n hO dX1_copyFrom_37 rfl rfl ?_
      refine x_getR (T := TX1) (j := 2) hO dX1_copyFrom_38 flX1_18 (by decide) rfl rfl (by decide) rfl rfl ?_
      refine x_iload_n hO dX1_copyFrom_41 rfl rfl ?_
      refine x_iald hO (by decide) rfl (by decide) (rfl) (hi) dX1_copyFrom_42 ?_
      refine x_iast hO (by decide) rfl (by decide) (rfl) (hi) dX1_copyFrom_43 ?_
      refine x_aload_n hO dX1_copyFrom_44 rfl rfl ?_
      refine x_getR (T := TX1) (j := 3) hO dX1_copyFrom_45 flX1_21 (by decide) rfl rfl (by decide) rfl rfl ?_
      refine x_iload_n hO dX1_copyFrom_48 rfl rfl ?_
      refine x_aload_n hO dX1_copyFrom_49 rfl rfl ?_
      refine x_getR (T := TX1) (j := 3) hO dX1_copyFrom_50 flX1_21 (by decide) rfl rfl (by decide) rfl rfl ?_
      refine x_iload_n hO dX1_copyFrom_53 rfl rfl ?_
      refine x_iald hO (by decide) rfl (by decide) (rfl) (hi) dX1_copyFrom_54 ?_
      refine x_iast hO (by decide) rfl (by decide) (rfl) (hi) dX1_copyFrom_55 ?_
      refine x_aload_n hO dX1_copyFrom_56 rfl rfl ?_
      refine x_getR (T := TX1) (j := 4) hO dX1_copyFrom_57 flX1_24 (by decide) rfl rfl (by decide) rfl rfl ?_
      refine x_iload_n hO dX1_copyFrom_60 rfl rfl ?_
      refine x_aload_n hO dX1_copyFrom_61 rfl rfl ?_
      refine x_getR (T := TX1) (j := 4) hO dX1_copyFrom_62 flX1_24 (by decide) rfl rfl (by decide) rfl rfl ?_
      refine x_iload_n hO dX1_copyFrom_65 rfl rfl ?_
      refine x_iald hO (by decide) rfl (by decide) (rfl) (hi) dX1_copyFrom_66 ?_
      refine x_iast hO (by decide) rfl (by decide) (rfl) (hi) dX1_copyFrom_67 ?_
      refine x_aload_n hO dX1_copyFrom_68 rfl rfl ?_
      refine x_getR (T := TX1) (j := 5) hO dX1_copyFrom_69 flX1_27 (by decide) rfl rfl (by decide) rfl rfl ?_
      refine x_iload_n hO dX1_copyFrom_72 rfl rfl ?_
      refine x_aload_n hO dX1_copyFrom_73 rfl rfl ?_
      refine x_getR (T := TX1) (j := 5) hO dX1_copyFrom_74 flX1_27 (by decide) rfl rfl (by decide) rfl rfl ?_
      refine x_iload_n hO dX1_copyFrom_77 rfl rfl ?_
      refine x_iald hO (by decide) rfl (by decide) (rfl) (hi) dX1_copyFrom_78 ?_
      refine x_iast hO (by decide) rfl (by decide) (rfl) (hi) dX1_copyFrom_79 ?_
      refine x_aload_n hO dX1_copyFrom_80 rfl rfl ?_
      refine x_getR (T := TX1) (j := 6) hO dX1_copyFrom_81 flX1_30 (by decide) rfl rfl (by decide) rfl rfl ?_
      refine x_iload_n hO dX1_copyFrom_84 rfl rfl ?_
      refine x_aload_n hO dX1_copyFrom_85 rfl rfl ?_
      refine x_getR (T := TX1) (j := 6) hO dX1_copyFrom_86 flX1_30 (by decide) rfl rfl (by decide) rfl rfl ?_
      refine x_iload_n hO dX1_copyFrom_89 rfl rfl ?_
      refine x_iald hO (by decide) rfl (by decide) (rfl) (hi) dX1_copyFrom_90 ?_
      refine x_iast hO (by decide) rfl (by decide) (rfl) (hi) dX1_copyFrom_91 ?_
      refine x_iinc hO dX1_copyFrom_92 rfl (by first | exact xinc_n _ | rfl) rfl hN ?_
      refine x_goto (tgt := 2) hO dX1_copyFrom_95 (by decide) ?_
      refine ih _ (cpR_s h1 (all7 ?_ ?_ ?_ ?_ ?_ ?_ ?_) (all7 ?_ ?_ ?_ ?_ ?_ ?_ ?_) (fun k hk => ?_))
      all_goals first
        | (simp [xset_at, g17, g18, g19, g20, g21, g22, g23]; done)
        | (intro s hs; simp [xset_at, hs]; done)
        | skip
      have h41 : ¬ k = 41 := by omega
      have h42 : ¬ k = 42 := by omega
      have h43 : ¬ k = 43 := by omega
      have h44 : ¬ k = 44 := by omega
      have h45 : ¬ k = 45 := by omega
      have h46 : ¬ k = 46 := by omega
      have h47 : ¬ k = 47 := by omega
      funext a
      simp [xset_at, h41, h42, h43, h44, h45, h46, h47]
theorem k_copyFrom_48_16 (U : xP) (M : xM) : xMetV U mX1_copyFrom [.inr 48, .inr 16] M (fun M' => cpSt M M' 48 16) := by
  refine xMetV.of (L := [some (.inr 48), some (.inr 16), none]) fX1_copyFrom rfl rfl (Nat.le_of_ble_eq_true rfl) (fun G hN hO hR => ?_)
  have hN : G.2.2.2.2.2.2.2.2.2.2.1 = 3 := hN
  have hO : xOK U G RX1 cX1_copyFrom 0 := hO
  refine x_iconst (v := nI 0) hO dX1_copyFrom_0 rfl ?_
  refine x_istore_n (n := 3) hO dX1_copyFrom_1 rfl rfl (by decide) hN ?_
  refine upd_ind (P := fun i _ => ∀ M1, cpR M M1 48 16 i → XW U G 2 [some (.inr 48), some (.inr 16), some (.inl (nI i))] [] M1) 32 ?_ ?_ 32 0 rfl M ⟨fun w _ s hs => by omega, fun k _ => rfl⟩
  · intro M1 h1
    refine x_iload_n hO dX1_copyFrom_2 rfl rfl ?_
    refine x_bipush (v := nI 32) hO dX1_copyFrom_3 rfl ?_
    refine x_icmp_ge (tgt := 98) hO dX1_copyFrom_5 (by decide) (fun c => ?_) (fun c => ?_)
    · refine x_aload_n hO dX1_copyFrom_98 rfl rfl ?_
      refine x_aload_n hO dX1_copyFrom_99 rfl rfl ?_
      refine x_getI (T := TX1) (j := 7) hO dX1_copyFrom_100 flX1_33 (by decide) rfl rfl (by decide) rfl rfl ?_
      refine x_put (T := TX1) (j := 7) (ty := .int) hO dX1_copyFrom_103 flX1_33 (by decide) rfl rfl (by decide) rfl rfl rfl (by decide +kernel) rfl rfl ?_
      refine x_aload_n hO dX1_copyFrom_106 rfl rfl ?_
      refine x_aload_n hO dX1_copyFrom_107 rfl rfl ?_
      refine x_getI (T := TX1) (j := 8) hO dX1_copyFrom_108 flX1_37 (by decide) rfl rfl (by decide) rfl rfl ?_
      refine x_put (T := TX1) (j := 8) (ty := .int) hO dX1_copyFrom_111 flX1_37 (by decide) rfl rfl (by decide) rfl rfl rfl (by decide +kernel) rfl rfl ?_
      refine x_aload_n hO dX1_copyFrom_114 rfl rfl ?_
      refine x_aload_n hO dX1_copyFrom_115 rfl rfl ?_
      refine x_getI (T := TX1) (j := 9) hO dX1_copyFrom_116 flX1_40 (by decide) rfl rfl (by decide) rfl rfl ?_
      refine x_put (T := TX1) (j := 9) (ty := .int) hO dX1_copyFrom_119 flX1_40 (by decide) rfl rfl (by decide) rfl rfl rfl (by decide +kernel) rfl rfl ?_
      refine x_aload_n hO dX1_copyFrom_122 rfl rfl ?_
      refine x_aload_n hO dX1_copyFrom_123 rfl rfl ?_
      refine x_getI (T := TX1) (j := 10) hO dX1_copyFrom_124 flX1_43 (by decide) rfl rfl (by decide) rfl rfl ?_
      refine x_put (T := TX1) (j := 10) (ty := .int) hO dX1_copyFrom_127 flX1_43 (by decide) rfl rfl (by decide) rfl rfl rfl (by decide +kernel) rfl rfl ?_
      refine x_aload_n hO dX1_copyFrom_130 rfl rfl ?_
      refine x_aload_n hO dX1_copyFrom_131 rfl rfl ?_
      refine x_getI (T := TX1) (j := 11) hO dX1_copyFrom_132 flX1_46 (by decide) rfl rfl (by decide) rfl rfl ?_
      refine x_put (T := TX1) (j := 11) (ty := .int) hO dX1_copyFrom_135 flX1_46 (by decide) rfl rfl (by decide) rfl rfl rfl (by decide +kernel) rfl rfl ?_
      refine x_vret hO hR dX1_copyFrom_138 ?_
      have gp : M1 48 = M 48 := h1.2 _ (by omega)
      have gq : M1 16 = M 16 := h1.2 _ (by omega)
      refine ⟨cA_ext (fun s hs => ?_) (fun s hs => cA_ge hs), all5 ?_ ?_ ?_ ?_ ?_, fun k hk => ?_⟩
      · refine cA_row hs hs (fun w hw => ?_)
        have e := h1.1 w hw s hs
        have n0 : ¬ 48 + 1 + w = 48 := by omega
        simp only [xset_at, n0, if_false]
        exact e
      · simp [xset_at, gp, gq]
      · simp [xset_at, gp, gq]
      · simp [xset_at, gp, gq]
      · simp [xset_at, gp, gq]
      · simp [xset_at, gp, gq]
      · have n0 : ¬ k = 48 := by omega
        funext a
        simp only [xset_at, n0, if_false]
        rw [h1.2 k (by omega)]
    · exact absurd (Int32.le_refl _) c
  · intro i d hd ih M1 h1
    have hi : i < 32 := by omega
    have g17 : M1 17 = M 17 := h1.2 _ (by omega)
    have g18 : M1 18 = M 18 := h1.2 _ (by omega)
    have g19 : M1 19 = M 19 := h1.2 _ (by omega)
    have g20 : M1 20 = M 20 := h1.2 _ (by omega)
    have g21 : M1 21 = M 21 := h1.2 _ (by omega)
    have g22 : M1 22 = M 22 := h1.2 _ (by omega)
    have g23 : M1 23 = M 23 := h1.2 _ (by omega)
    refine x_iload_n hO dX1_copyFrom_2 rfl rfl ?_
    refine x_bipush (v := nI 32) hO dX1_copyFrom_3 rfl ?_
    refine x_icmp_ge (tgt := 98) hO dX1_copyFrom_5 (by decide) (fun c => ?_) (fun c => ?_)
    · exact absurd c (nI_ge hi (by decide))
    · refine x_aload_n hO dX1_copyFrom_8 rfl rfl ?_
      refine x_getR (T := TX1) (j := 0) hO dX1_copyFrom_9 flX1_9 (by decide) rfl rfl (by decide) rfl rfl ?_
      refine x_iload_n hO dX1_copyFrom_12 rfl rfl ?_
      refine x_aload_n hO dX1_copyFrom_13 rfl rfl ?_
      refine x_getR (T := TX1) (j := 0) hO dX1_copyFrom_14 flX1_9 (by decide) rfl rfl (by decide) rfl rfl ?_
      refine x_iload_n hO dX1_copyFrom_17 rfl rfl ?_
      refine x_iald hO (by decide) rfl (by decide) (rfl) (hi) dX1_copyFrom_18 ?_
      refine x_iast hO (by decide) rfl (by decide) (rfl) (hi) dX1_copyFrom_19 ?_
      refine x_aload_n hO dX1_copyFrom_20 rfl rfl ?_
      refine x_getR (T := TX1) (j := 1) hO dX1_copyFrom_21 flX1_15 (by decide) rfl rfl (by decide) rfl rfl ?_
      refine x_iload_n hO dX1_copyFrom_24 rfl rfl ?_
      refine x_aload_n hO dX1_copyFrom_25 rfl rfl ?_
      refine x_getR (T := TX1) (j := 1) hO dX1_copyFrom_26 flX1_15 (by decide) rfl rfl (by decide) rfl rfl ?_
      refine x_iload_n hO dX1_copyFrom_29 rfl rfl ?_
      refine x_iald hO (by decide) rfl (by decide) (rfl) (hi) dX1_copyFrom_30 ?_
      refine x_iast hO (by decide) rfl (by decide) (rfl) (hi) dX1_copyFrom_31 ?_
      refine x_aload_n hO dX1_copyFrom_32 rfl rfl ?_
      refine x_getR (T := TX1) (j := 2) hO dX1_copyFrom_33 flX1_18 (by decide) rfl rfl (by decide) rfl rfl ?_
      refine x_iload_n hO dX1_copyFrom_36 rfl rfl ?_
      refine x_aload_n hO dX1_copyFrom_37 rfl rfl ?_
      refine x_getR (T := TX1) (j := 2) hO dX1_copyFrom_38 flX1_18 (by decide) rfl rfl (by decide) rfl rfl ?_
      refine x_iload_n hO dX1_copyFrom_41 rfl rfl ?_
      refine x_iald hO (by decide) rfl (by decide) (rfl) (hi) dX1_copyFrom_42 ?_
      refine x_iast hO (by decide) rfl (by decide) (rfl) (hi) dX1_copyFrom_43 ?_
      refine x_aload_n hO dX1_copyFrom_44 rfl rfl ?_
      refine x_getR (T := TX1) (j := 3) hO dX1_copyFrom_45 flX1_21 (by decide) rfl rfl (by decide) rfl rfl ?_
      refine x_iload_n hO dX1_copyFrom_48 rfl rfl ?_
      refine x_aload_n hO dX1_copyFrom_49 rfl rfl ?_
      refine x_getR (T := TX1) (j := 3) hO dX1_copyFrom_50 flX1_21 (by decide) rfl rfl (by decide) rfl rfl ?_
      refine x_iload_n hO dX1_copyFrom_53 rfl rfl ?_
      refine x_iald hO (by decide) rfl (by decide) (rfl) (hi) dX1_copyFrom_54 ?_
      refine x_iast hO (by decide) rfl (by decide) (rfl) (hi) dX1_copyFrom_55 ?_
      refine x_aload_n hO dX1_copyFrom_56 rfl rfl ?_
      refine x_getR (T := TX1) (j := 4) hO dX1_copyFrom_57 flX1_24 (by decide) rfl rfl (by decide) rfl rfl ?_
      refine x_iload_n hO dX1_copyFrom_60 rfl rfl ?_
      refine x_aload_n hO dX1_copyFrom_61 rfl rfl ?_
      refine x_getR (T := TX1) (j := 4) hO dX1_copyFrom_62 flX1_24 (by decide) rfl rfl (by decide) rfl rfl ?_
      refine x_iload_n hO dX1_copyFrom_65 rfl rfl ?_
      refine x_iald hO (by decide) rfl (by decide) (rfl) (hi) dX1_copyFrom_66 ?_
      refine x_iast hO (by decide) rfl (by decide) (rfl) (hi) dX1_copyFrom_67 ?_
      refine x_aload_n hO dX1_copyFrom_68 rfl rfl ?_
      refine x_getR (T := TX1) (j := 5) hO dX1_copyFrom_69 flX1_27 (by decide) rfl rfl (by decide) rfl rfl ?_
      refine x_iload_n hO dX1_copyFrom_72 rfl rfl ?_
      refine x_aload_n hO dX1_copyFrom_73 rfl rfl ?_
      refine x_getR (T := TX1) (j := 5) hO dX1_copyFrom_74 flX1_27 (by decide) rfl rfl (by decide) rfl rfl ?_
      refine x_iload_n hO dX1_copyFrom_77 rfl rfl ?_
      refine x_iald hO (by decide) rfl (by decide) (rfl) (hi) dX1_copyFrom_78 ?_
      refine x_iast hO (by decide) rfl (by decide) (rfl) (hi) dX1_copyFrom_79 ?_
      refine x_aload_n hO dX1_copyFrom_80 rfl rfl ?_
      refine x_getR (T := TX1) (j := 6) hO dX1_copyFrom_81 flX1_30 (by decide) rfl rfl (by decide) rfl rfl ?_
      refine x_iload_n hO dX1_copyFrom_84 rfl rfl ?_
      refine x_aload_n hO dX1_copyFrom_85 rfl rfl ?_
      refine x_getR (T := TX1) (j := 6) hO dX1_copyFrom_86 flX1_30 (by decide) rfl rfl (by decide) rfl rfl ?_
      refine x_iload_n hO dX1_copyFrom_89 rfl rfl ?_
      refine x_iald hO (by decide) rfl (by decide) (rfl) (hi) dX1_copyFrom_90 ?_
      refine x_iast hO (by decide) rfl (by decide) (rfl) (hi) dX1_copyFrom_91 ?_
      refine x_iinc hO dX1_copyFrom_92 rfl (by first | exact xinc_n _ | rfl) rfl hN ?_
      refine x_goto (tgt := 2) hO dX1_copyFrom_95 (by decide) ?_
      refine ih _ (cpR_s h1 (all7 ?_ ?_ ?_ ?_ ?_ ?_ ?_) (all7 ?_ ?_ ?_ ?_ ?_ ?_ ?_) (fun k hk => ?_))
      all_goals first
        | (simp [xset_at, g17, g18, g19, g20, g21, g22, g23]; done)
        | (intro s hs; simp [xset_at, hs]; done)
        | skip
      have h49 : ¬ k = 49 := by omega
      have h50 : ¬ k = 50 := by omega
      have h51 : ¬ k = 51 := by omega
      have h52 : ¬ k = 52 := by omega
      have h53 : ¬ k = 53 := by omega
      have h54 : ¬ k = 54 := by omega
      have h55 : ¬ k = 55 := by omega
      funext a
      simp [xset_at, h49, h50, h51, h52, h53, h54, h55]
theorem k_copyFrom_56_16 (U : xP) (M : xM) : xMetV U mX1_copyFrom [.inr 56, .inr 16] M (fun M' => cpSt M M' 56 16) := by
  refine xMetV.of (L := [some (.inr 56), some (.inr 16), none]) fX1_copyFrom rfl rfl (Nat.le_of_ble_eq_true rfl) (fun G hN hO hR => ?_)
  have hN : G.2.2.2.2.2.2.2.2.2.2.1 = 3 := hN
  have hO : xOK U G RX1 cX1_copyFrom 0 := hO
  refine x_iconst (v := nI 0) hO dX1_copyFrom_0 rfl ?_
  refine x_istore_n (n := 3) hO dX1_copyFrom_1 rfl rfl (by decide) hN ?_
  refine upd_ind (P := fun i _ => ∀ M1, cpR M M1 56 16 i → XW U G 2 [some (.inr 56), some (.inr 16), some (.inl (nI i))] [] M1) 32 ?_ ?_ 32 0 rfl M ⟨fun w _ s hs => by omega, fun k _ => rfl⟩
  · intro M1 h1
    refine x_iload_n hO dX1_copyFrom_2 rfl rfl ?_
    refine x_bipush (v := nI 32) hO dX1_copyFrom_3 rfl ?_
    refine x_icmp_ge (tgt := 98) hO dX1_copyFrom_5 (by decide) (fun c => ?_) (fun c => ?_)
    · refine x_aload_n hO dX1_copyFrom_98 rfl rfl ?_
      refine x_aload_n hO dX1_copyFrom_99 rfl rfl ?_
      refine x_getI (T := TX1) (j := 7) hO dX1_copyFrom_100 flX1_33 (by decide) rfl rfl (by decide) rfl rfl ?_
      refine x_put (T := TX1) (j := 7) (ty := .int) hO dX1_copyFrom_103 flX1_33 (by decide) rfl rfl (by decide) rfl rfl rfl (by decide +kernel) rfl rfl ?_
      refine x_aload_n hO dX1_copyFrom_106 rfl rfl ?_
      refine x_aload_n hO dX1_copyFrom_107 rfl rfl ?_
      refine x_getI (T := TX1) (j := 8) hO dX1_copyFrom_108 flX1_37 (by decide) rfl rfl (by decide) rfl rfl ?_
      refine x_put (T := TX1) (j := 8) (ty := .int) hO dX1_copyFrom_111 flX1_37 (by decide) rfl rfl (by decide) rfl rfl rfl (by decide +kernel) rfl rfl ?_
      refine x_aload_n hO dX1_copyFrom_114 rfl rfl ?_
      refine x_aload_n hO dX1_copyFrom_115 rfl rfl ?_
      refine x_getI (T := TX1) (j := 9) hO dX1_copyFrom_116 flX1_40 (by decide) rfl rfl (by decide) rfl rfl ?_
      refine x_put (T := TX1) (j := 9) (ty := .int) hO dX1_copyFrom_119 flX1_40 (by decide) rfl rfl (by decide) rfl rfl rfl (by decide +kernel) rfl rfl ?_
      refine x_aload_n hO dX1_copyFrom_122 rfl rfl ?_
      refine x_aload_n hO dX1_copyFrom_123 rfl rfl ?_
      refine x_getI (T := TX1) (j := 10) hO dX1_copyFrom_124 flX1_43 (by decide) rfl rfl (by decide) rfl rfl ?_
      refine x_put (T := TX1) (j := 10) (ty := .int) hO dX1_copyFrom_127 flX1_43 (by decide) rfl rfl (by decide) rfl rfl rfl (by decide +kernel) rfl rfl ?_
      refine x_aload_n hO dX1_copyFrom_130 rfl rfl ?_
      refine x_aload_n hO dX1_copyFrom_131 rfl rfl ?_
      refine x_getI (T := TX1) (j := 11) hO dX1_copyFrom_132 flX1_46 (by decide) rfl rfl (by decide) rfl rfl ?_
      refine x_put (T := TX1) (j := 11) (ty := .int) hO dX1_copyFrom_135 flX1_46 (by decide) rfl rfl (by decide) rfl rfl rfl (by decide +kernel) rfl rfl ?_
      refine x_vret hO hR dX1_copyFrom_138 ?_
      have gp : M1 56 = M 56 := h1.2 _ (by omega)
      have gq : M1 16 = M 16 := h1.2 _ (by omega)
      refine ⟨cA_ext (fun s hs => ?_) (fun s hs => cA_ge hs), all5 ?_ ?_ ?_ ?_ ?_, fun k hk => ?_⟩
      · refine cA_row hs hs (fun w hw => ?_)
        have e := h1.1 w hw s hs
        have n0 : ¬ 56 + 1 + w = 56 := by omega
        simp only [xset_at, n0, if_false]
        exact e
      · simp [xset_at, gp, gq]
      · simp [xset_at, gp, gq]
      · simp [xset_at, gp, gq]
      · simp [xset_at, gp, gq]
      · simp [xset_at, gp, gq]
      · have n0 : ¬ k = 56 := by omega
        funext a
        simp only [xset_at, n0, if_false]
        rw [h1.2 k (by omega)]
    · exact absurd (Int32.le_refl _) c
  · intro i d hd ih M1 h1
    have hi : i < 32 := by omega
    have g17 : M1 17 = M 17 := h1.2 _ (by omega)
    have g18 : M1 18 = M 18 := h1.2 _ (by omega)
    have g19 : M1 19 = M 19 := h1.2 _ (by omega)
    have g20 : M1 20 = M 20 := h1.2 _ (by omega)
    have g21 : M1 21 = M 21 := h1.2 _ (by omega)
    have g22 : M1 22 = M 22 := h1.2 _ (by omega)
    have g23 : M1 23 = M 23 := h1.2 _ (by omega)
    refine x_iload_n hO dX1_copyFrom_2 rfl rfl ?_
    refine x_bipush (v := nI 32) hO dX1_copyFrom_3 rfl ?_
    refine x_icmp_ge (tgt := 98) hO dX1_copyFrom_5 (by decide) (fun c => ?_) (fun c => ?_)
    · exact absurd c (nI_ge hi (by decide))
    · refine x_aload_n hO dX1_copyFrom_8 rfl rfl ?_
      refine x_getR (T := TX1) (j := 0) hO dX1_copyFrom_9 flX1_9 (by decide) rfl rfl (by decide) rfl rfl ?_
      refine x_iload_n hO dX1_copyFrom_12 rfl rfl ?_
      refine x_aload_n hO dX1_copyFrom_13 rfl rfl ?_
      refine x_getR (T := TX1) (j := 0) hO dX1_copyFrom_14 flX1_9 (by decide) rfl rfl (by decide) rfl rfl ?_
      refine x_iload_n hO dX1_copyFrom_17 rfl rfl ?_
      refine x_iald hO (by decide) rfl (by decide) (rfl) (hi) dX1_copyFrom_18 ?_
      refine x_iast hO (by decide) rfl (by decide) (rfl) (hi) dX1_copyFrom_19 ?_
      refine x_aload_n hO dX1_copyFrom_20 rfl rfl ?_
      refine x_getR (T := TX1) (j := 1) hO dX1_copyFrom_21 flX1_15 (by decide) rfl rfl (by decide) rfl rfl ?_
      refine x_iload_n hO dX1_copyFrom_24 rfl rfl ?_
      refine x_aload_n hO dX1_copyFrom_25 rfl rfl ?_
      refine x_getR (T := TX1) (j := 1) hO dX1_copyFrom_26 flX1_15 (by decide) rfl rfl (by decide) rfl rfl ?_
      refine x_iload_n hO dX1_copyFrom_29 rfl rfl ?_
      refine x_iald hO (by decide) rfl (by decide) (rfl) (hi) dX1_copyFrom_30 ?_
      refine x_iast hO (by decide) rfl (by decide) (rfl) (hi) dX1_copyFrom_31 ?_
      refine x_aload_n hO dX1_copyFrom_32 rfl rfl ?_
      refine x_getR (T := TX1) (j := 2) hO dX1_copyFrom_33 flX1_18 (by decide) rfl rfl (by decide) rfl rfl ?_
      refine x_iload_n hO dX1_copyFrom_36 rfl rfl ?_
      refine x_aload_n hO dX1_copyFrom_37 rfl rfl ?_
      refine x_getR (T := TX1) (j := 2) hO dX1_copyFrom_38 flX1_18 (by decide) rfl rfl (by decide) rfl rfl ?_
      refine x_iload_n hO dX1_copyFrom_41 rfl rfl ?_
      refine x_iald hO (by decide) rfl (by decide) (rfl) (hi) dX1_copyFrom_42 ?_
      refine x_iast hO (by decide) rfl (by decide) (rfl) (hi) dX1_copyFrom_43 ?_
      refine x_aload_n hO dX1_copyFrom_44 rfl rfl ?_
      refine x_getR (T := TX1) (j := 3) hO dX1_copyFrom_45 flX1_21 (by decide) rfl rfl (by decide) rfl rfl ?_
      refine x_iload_n hO dX1_copyFrom_48 rfl rfl ?_
      refine x_aload_n hO dX1_copyFrom_49 rfl rfl ?_
      refine x_getR (T := TX1) (j := 3) hO dX1_copyFrom_50 flX1_21 (by decide) rfl rfl (by decide) rfl rfl ?_
      refine x_iload_n hO dX1_copyFrom_53 rfl rfl ?_
      refine x_iald hO (by decide) rfl (by decide) (rfl) (hi) dX1_copyFrom_54 ?_
      refine x_iast hO (by decide) rfl (by decide) (rfl) (hi) dX1_copyFrom_55 ?_
      refine x_aload_n hO dX1_copyFrom_56 rfl rfl ?_
      refine x_getR (T := TX1) (j := 4) hO dX1_copyFrom_57 flX1_24 (by decide) rfl rfl (by decide) rfl rfl ?_
      refine x_iload_n hO dX1_copyFrom_60 rfl rfl ?_
      refine x_aload_n hO dX1_copyFrom_61 rfl rfl ?_
      refine x_getR (T := TX1) (j := 4) hO dX1_copyFrom_62 flX1_24 (by decide) rfl rfl (by decide) rfl rfl ?_
      refine x_iload_n hO dX1_copyFrom_65 rfl rfl ?_
      refine x_iald hO (by decide) rfl (by decide) (rfl) (hi) dX1_copyFrom_66 ?_
      refine x_iast hO (by decide) rfl (by decide) (rfl) (hi) dX1_copyFrom_67 ?_
      refine x_aload_n hO dX1_copyFrom_68 rfl rfl ?_
      refine x_getR (T := TX1) (j := 5) hO dX1_copyFrom_69 flX1_27 (by decide) rfl rfl (by decide) rfl rfl ?_
      refine x_iload_n hO dX1_copyFrom_72 rfl rfl ?_
      refine x_aload_n hO dX1_copyFrom_73 rfl rfl ?_
      refine x_getR (T := TX1) (j := 5) hO dX1_copyFrom_74 flX1_27 (by decide) rfl rfl (by decide) rfl rfl ?_
      refine x_iload_n hO dX1_copyFrom_77 rfl rfl ?_
      refine x_iald hO (by decide) rfl (by decide) (rfl) (hi) dX1_copyFrom_78 ?_
      refine x_iast hO (by decide) rfl (by decide) (rfl) (hi) dX1_copyFrom_79 ?_
      refine x_aload_n hO dX1_copyFrom_80 rfl rfl ?_
      refine x_getR (T := TX1) (j := 6) hO dX1_copyFrom_81 flX1_30 (by decide) rfl rfl (by decide) rfl rfl ?_
      refine x_iload_n hO dX1_copyFrom_84 rfl rfl ?_
      refine x_aload_n hO dX1_copyFrom_85 rfl rfl ?_
      refine x_getR (T := TX1) (j := 6) hO dX1_copyFrom_86 flX1_30 (by decide) rfl rfl (by decide) rfl rfl ?_
      refine x_iload_n hO dX1_copyFrom_89 rfl rfl ?_
      refine x_iald hO (by decide) rfl (by decide) (rfl) (hi) dX1_copyFrom_90 ?_
      refine x_iast hO (by decide) rfl (by decide) (rfl) (hi) dX1_copyFrom_91 ?_
      refine x_iinc hO dX1_copyFrom_92 rfl (by first | exact xinc_n _ | rfl) rfl hN ?_
      refine x_goto (tgt := 2) hO dX1_copyFrom_95 (by decide) ?_
      refine ih _ (cpR_s h1 (all7 ?_ ?_ ?_ ?_ ?_ ?_ ?_) (all7 ?_ ?_ ?_ ?_ ?_ ?_ ?_) (fun k hk => ?_))
      all_goals first
        | (simp [xset_at, g17, g18, g19, g20, g21, g22, g23]; done)
        | (intro s hs; simp [xset_at, hs]; done)
        | skip
      have h57 : ¬ k = 57 := by omega
      have h58 : ¬ k = 58 := by omega
      have h59 : ¬ k = 59 := by omega
      have h60 : ¬ k = 60 := by omega
      have h61 : ¬ k = 61 := by omega
      have h62 : ¬ k = 62 := by omega
      have h63 : ¬ k = 63 := by omega
      funext a
      simp [xset_at, h57, h58, h59, h60, h61, h62, h63]
/-! ===== TernaryMatcher.copyState ===== -/
theorem k_copyState_24_16 (U : xP) (M : xM) : xMetV U mX3_copyState [.inr 24, .inr 16] M (fun M' => cpSt M M' 16 24) := by
  refine xMetV.of (L := [some (.inr 24), some (.inr 16)]) fX3_copyState rfl rfl (Nat.le_of_ble_eq_true rfl) (fun G hN hO hR => ?_)
  have hN : G.2.2.2.2.2.2.2.2.2.2.1 = 2 := hN
  have hO : xOK U G RX3 cX3_copyState 1 := hO
  refine x_aload_n hO dX3_copyState_0 rfl rfl ?_
  refine x_ifnull hO dX3_copyState_1 ?_
  refine x_aload_n hO dX3_copyState_4 rfl rfl ?_
  refine x_ifnull hO dX3_copyState_5 ?_
  refine x_aload_n hO dX3_copyState_8 rfl rfl ?_
  refine x_aload_n hO dX3_copyState_9 rfl rfl ?_
  refine x_callVv hO (k_copyFrom_16_24 U M) dX3_copyState_10 lkX3_210 fX1_copyFrom vX1_copyFrom (by decide) rfl rfl rfl rfl rfl (by decide) (Nat.le_of_ble_eq_true rfl) (fun M' h => ?_)
  refine x_vret hO hR dX3_copyState_13 ?_
  exact h
theorem k_copyState_32_16 (U : xP) (M : xM) : xMetV U mX3_copyState [.inr 32, .inr 16] M (fun M' => cpSt M M' 16 32) := by
  refine xMetV.of (L := [some (.inr 32), some (.inr 16)]) fX3_copyState rfl rfl (Nat.le_of_ble_eq_true rfl) (fun G hN hO hR => ?_)
  have hN : G.2.2.2.2.2.2.2.2.2.2.1 = 2 := hN
  have hO : xOK U G RX3 cX3_copyState 1 := hO
  refine x_aload_n hO dX3_copyState_0 rfl rfl ?_
  refine x_ifnull hO dX3_copyState_1 ?_
  refine x_aload_n hO dX3_copyState_4 rfl rfl ?_
  refine x_ifnull hO dX3_copyState_5 ?_
  refine x_aload_n hO dX3_copyState_8 rfl rfl ?_
  refine x_aload_n hO dX3_copyState_9 rfl rfl ?_
  refine x_callVv hO (k_copyFrom_16_32 U M) dX3_copyState_10 lkX3_210 fX1_copyFrom vX1_copyFrom (by decide) rfl rfl rfl rfl rfl (by decide) (Nat.le_of_ble_eq_true rfl) (fun M' h => ?_)
  refine x_vret hO hR dX3_copyState_13 ?_
  exact h
theorem k_copyState_40_16 (U : xP) (M : xM) : xMetV U mX3_copyState [.inr 40, .inr 16] M (fun M' => cpSt M M' 16 40) := by
  refine xMetV.of (L := [some (.inr 40), some (.inr 16)]) fX3_copyState rfl rfl (Nat.le_of_ble_eq_true rfl) (fun G hN hO hR => ?_)
  have hN : G.2.2.2.2.2.2.2.2.2.2.1 = 2 := hN
  have hO : xOK U G RX3 cX3_copyState 1 := hO
  refine x_aload_n hO dX3_copyState_0 rfl rfl ?_
  refine x_ifnull hO dX3_copyState_1 ?_
  refine x_aload_n hO dX3_copyState_4 rfl rfl ?_
  refine x_ifnull hO dX3_copyState_5 ?_
  refine x_aload_n hO dX3_copyState_8 rfl rfl ?_
  refine x_aload_n hO dX3_copyState_9 rfl rfl ?_
  refine x_callVv hO (k_copyFrom_16_40 U M) dX3_copyState_10 lkX3_210 fX1_copyFrom vX1_copyFrom (by decide) rfl rfl rfl rfl rfl (by decide) (Nat.le_of_ble_eq_true rfl) (fun M' h => ?_)
  refine x_vret hO hR dX3_copyState_13 ?_
  exact h
theorem k_copyState_48_16 (U : xP) (M : xM) : xMetV U mX3_copyState [.inr 48, .inr 16] M (fun M' => cpSt M M' 16 48) := by
  refine xMetV.of (L := [some (.inr 48), some (.inr 16)]) fX3_copyState rfl rfl (Nat.le_of_ble_eq_true rfl) (fun G hN hO hR => ?_)
  have hN : G.2.2.2.2.2.2.2.2.2.2.1 = 2 := hN
  have hO : xOK U G RX3 cX3_copyState 1 := hO
  refine x_aload_n hO dX3_copyState_0 rfl rfl ?_
  refine x_ifnull hO dX3_copyState_1 ?_
  refine x_aload_n hO dX3_copyState_4 rfl rfl ?_
  refine x_ifnull hO dX3_copyState_5 ?_
  refine x_aload_n hO dX3_copyState_8 rfl rfl ?_
  refine x_aload_n hO dX3_copyState_9 rfl rfl ?_
  refine x_callVv hO (k_copyFrom_16_48 U M) dX3_copyState_10 lkX3_210 fX1_copyFrom vX1_copyFrom (by decide) rfl rfl rfl rfl rfl (by decide) (Nat.le_of_ble_eq_true rfl) (fun M' h => ?_)
  refine x_vret hO hR dX3_copyState_13 ?_
  exact h
theorem k_copyState_56_16 (U : xP) (M : xM) : xMetV U mX3_copyState [.inr 56, .inr 16] M (fun M' => cpSt M M' 16 56) := by
  refine xMetV.of (L := [some (.inr 56), some (.inr 16)]) fX3_copyState rfl rfl (Nat.le_of_ble_eq_true rfl) (fun G hN hO hR => ?_)
  have hN : G.2.2.2.2.2.2.2.2.2.2.1 = 2 := hN
  have hO : xOK U G RX3 cX3_copyState 1 := hO
  refine x_aload_n hO dX3_copyState_0 rfl rfl ?_
  refine x_ifnull hO dX3_copyState_1 ?_
  refine x_aload_n hO dX3_copyState_4 rfl rfl ?_
  refine x_ifnull hO dX3_copyState_5 ?_
  refine x_aload_n hO dX3_copyState_8 rfl rfl ?_
  refine x_aload_n hO dX3_copyState_9 rfl rfl ?_
  refine x_callVv hO (k_copyFrom_16_56 U M) dX3_copyState_10 lkX3_210 fX1_copyFrom vX1_copyFrom (by decide) rfl rfl rfl rfl rfl (by decide) (Nat.le_of_ble_eq_true rfl) (fun M' h => ?_)
  refine x_vret hO hR dX3_copyState_13 ?_
  exact h
theorem k_copyState_16_24 (U : xP) (M : xM) : xMetV U mX3_copyState [.inr 16, .inr 24] M (fun M' => cpSt M M' 24 16) := by
  refine xMetV.of (L := [some (.inr 16), some (.inr 24)]) fX3_copyState rfl rfl (Nat.le_of_ble_eq_true rfl) (fun G hN hO hR => ?_)
  have hN : G.2.2.2.2.2.2.2.2.2.2.1 = 2 := hN
  have hO : xOK U G RX3 cX3_copyState 1 := hO
  refine x_aload_n hO dX3_copyState_0 rfl rfl ?_
  refine x_ifnull hO dX3_copyState_1 ?_
  refine x_aload_n hO dX3_copyState_4 rfl rfl ?_
  refine x_ifnull hO dX3_copyState_5 ?_
  refine x_aload_n hO dX3_copyState_8 rfl rfl ?_
  refine x_aload_n hO dX3_copyState_9 rfl rfl ?_
  refine x_callVv hO (k_copyFrom_24_16 U M) dX3_copyState_10 lkX3_210 fX1_copyFrom vX1_copyFrom (by decide) rfl rfl rfl rfl rfl (by decide) (Nat.le_of_ble_eq_true rfl) (fun M' h => ?_)
  refine x_vret hO hR dX3_copyState_13 ?_
  exact h
theorem k_copyState_16_32 (U : xP) (M : xM) : xMetV U mX3_copyState [.inr 16, .inr 32] M (fun M' => cpSt M M' 32 16) := by
  refine xMetV.of (L := [some (.inr 16), some (.inr 32)]) fX3_copyState rfl rfl (Nat.le_of_ble_eq_true rfl) (fun G hN hO hR => ?_)
  have hN : G.2.2.2.2.2.2.2.2.2.2.1 = 2 := hN
  have hO : xOK U G RX3 cX3_copyState 1 := hO
  refine x_aload_n hO dX3_copyState_0 rfl rfl ?_
  refine x_ifnull hO dX3_copyState_1 ?_
  refine x_aload_n hO dX3_copyState_4 rfl rfl ?_
  refine x_ifnull hO dX3_copyState_5 ?_
  refine x_aload_n hO dX3_copyState_8 rfl rfl ?_
  refine x_aload_n hO dX3_copyState_9 rfl rfl ?_
  refine x_callVv hO (k_copyFrom_32_16 U M) dX3_copyState_10 lkX3_210 fX1_copyFrom vX1_copyFrom (by decide) rfl rfl rfl rfl rfl (by decide) (Nat.le_of_ble_eq_true rfl) (fun M' h => ?_)
  refine x_vret hO hR dX3_copyState_13 ?_
  exact h
theorem k_copyState_16_40 (U : xP) (M : xM) : xMetV U mX3_copyState [.inr 16, .inr 40] M (fun M' => cpSt M M' 40 16) := by
  refine xMetV.of (L := [some (.inr 16), some (.inr 40)]) fX3_copyState rfl rfl (Nat.le_of_ble_eq_true rfl) (fun G hN hO hR => ?_)
  have hN : G.2.2.2.2.2.2.2.2.2.2.1 = 2 := hN
  have hO : xOK U G RX3 cX3_copyState 1 := hO
  refine x_aload_n hO dX3_copyState_0 rfl rfl ?_
  refine x_ifnull hO dX3_copyState_1 ?_
  refine x_aload_n hO dX3_copyState_4 rfl rfl ?_
  refine x_ifnull hO dX3_copyState_5 ?_
  refine x_aload_n hO dX3_copyState_8 rfl rfl ?_
  refine x_aload_n hO dX3_copyState_9 rfl rfl ?_
  refine x_callVv hO (k_copyFrom_40_16 U M) dX3_copyState_10 lkX3_210 fX1_copyFrom vX1_copyFrom (by decide) rfl rfl rfl rfl rfl (by decide) (Nat.le_of_ble_eq_true rfl) (fun M' h => ?_)
  refine x_vret hO hR dX3_copyState_13 ?_
  exact h
theorem k_copyState_16_48 (U : xP) (M : xM) : xMetV U mX3_copyState [.inr 16, .inr 48] M (fun M' => cpSt M M' 48 16) := by
  refine xMetV.of (L := [some (.inr 16), some (.inr 48)]) fX3_copyState rfl rfl (Nat.le_of_ble_eq_true rfl) (fun G hN hO hR => ?_)
  have hN : G.2.2.2.2.2.2.2.2.2.2.1 = 2 := hN
  have hO : xOK U G RX3 cX3_copyState 1 := hO
  refine x_aload_n hO dX3_copyState_0 rfl rfl ?_
  refine x_ifnull hO dX3_copyState_1 ?_
  refine x_aload_n hO dX3_copyState_4 rfl rfl ?_
  refine x_ifnull hO dX3_copyState_5 ?_
  refine x_aload_n hO dX3_copyState_8 rfl rfl ?_
  refine x_aload_n hO dX3_copyState_9 rfl rfl ?_
  refine x_callVv hO (k_copyFrom_48_16 U M) dX3_copyState_10 lkX3_210 fX1_copyFrom vX1_copyFrom (by decide) rfl rfl rfl rfl rfl (by decide) (Nat.le_of_ble_eq_true rfl) (fun M' h => ?_)
  refine x_vret hO hR dX3_copyState_13 ?_
  exact h
theorem k_copyState_16_56 (U : xP) (M : xM) : xMetV U mX3_copyState [.inr 16, .inr 56] M (fun M' => cpSt M M' 56 16) := by
  refine xMetV.of (L := [some (.inr 16), some (.inr 56)]) fX3_copyState rfl rfl (Nat.le_of_ble_eq_true rfl) (fun G hN hO hR => ?_)
  have hN : G.2.2.2.2.2.2.2.2.2.2.1 = 2 := hN
  have hO : xOK U G RX3 cX3_copyState 1 := hO
  refine x_aload_n hO dX3_copyState_0 rfl rfl ?_
  refine x_ifnull hO dX3_copyState_1 ?_
  refine x_aload_n hO dX3_copyState_4 rfl rfl ?_
  refine x_ifnull hO dX3_copyState_5 ?_
  refine x_aload_n hO dX3_copyState_8 rfl rfl ?_
  refine x_aload_n hO dX3_copyState_9 rfl rfl ?_
  refine x_callVv hO (k_copyFrom_56_16 U M) dX3_copyState_10 lkX3_210 fX1_copyFrom vX1_copyFrom (by decide) rfl rfl rfl rfl rfl (by decide) (Nat.le_of_ble_eq_true rfl) (fun M' h => ?_)
  refine x_vret hO hR dX3_copyState_13 ?_
  exact h
theorem k_copyTo (U : xP) (M : xM) {b : Nat} (h : b = 24 ∨ b = 32 ∨ b = 40 ∨ b = 48 ∨ b = 56) : xMetV U mX3_copyState [.inr 16, .inr b] M (fun M' => cpSt M M' b 16) := by
  rcases h with rfl | rfl | rfl | rfl | rfl
  · exact k_copyState_16_24 U M
  · exact k_copyState_16_32 U M
  · exact k_copyState_16_40 U M
  · exact k_copyState_16_48 U M
  · exact k_copyState_16_56 U M
theorem k_copyOf (U : xP) (M : xM) {b : Nat} (h : b = 24 ∨ b = 32 ∨ b = 40 ∨ b = 48 ∨ b = 56) : xMetV U mX3_copyState [.inr b, .inr 16] M (fun M' => cpSt M M' 16 b) := by
  rcases h with rfl | rfl | rfl | rfl | rfl
  · exact k_copyState_24_16 U M
  · exact k_copyState_32_16 U M
  · exact k_copyState_40_16 U M
  · exact k_copyState_48_16 U M
  · exact k_copyState_56_16 U M
/-! ===== Math.floorMod, History ===== -/
theorem k_floorMod (U : xP) (M : xM) {a : Nat} (ha : a < 100) : xMetI U mJ9_floorMod_7cf53 [.inl (nI a), .inl (nI 4)] M (fun r M' => r = nI (a % 4) ∧ M' = M) := by
  refine xMetI.of (ty := .int) (L := [some (.inl (nI a)), some (.inl (nI 4)), none]) fJ9_floorMod_7cf53 rfl rfl (Nat.le_of_ble_eq_true rfl) (fun G hN hO hR => ?_)
  have hN : G.2.2.2.2.2.2.2.2.2.2.1 = 3 := hN
  have hO : xOK U G RJ9 cJ9_floorMod_7cf53 0 := hO
  have n0 : ¬ nI 4 = 0 := by decide
  refine x_iload_n hO dJ9_floorMod_7cf53_0 rfl rfl ?_
  refine x_iload_n hO dJ9_floorMod_7cf53_1 rfl rfl ?_
  refine x_irem hO dJ9_floorMod_7cf53_2 (n0) ?_
  rw [pk_rem (by omega) (by decide) (by decide)]
  refine x_istore_n (n := 3) hO dJ9_floorMod_7cf53_3 rfl rfl (by decide) hN ?_
  refine x_iload_n hO dJ9_floorMod_7cf53_4 rfl rfl ?_
  refine x_iload_n hO dJ9_floorMod_7cf53_5 rfl rfl ?_
  refine x_ixor hO dJ9_floorMod_7cf53_6 ?_
  have hx : ∀ a, a < 100 → 0 ≤ nI a ^^^ nI 4 := by decide +kernel
  refine x_if_ge (tgt := 18) hO dJ9_floorMod_7cf53_7 (by decide) (fun c => ?_) (fun c => ?_)
  · refine x_iload_n hO dJ9_floorMod_7cf53_18 rfl rfl ?_
    refine x_iret hO hR dJ9_floorMod_7cf53_19 rfl ?_
    exact ⟨rfl, rfl⟩
  · exact absurd (hx a ha) c
/-- the memory of the history's place i, when the oldest is o -/
def hb (o i : Nat) : Nat := 32 + 8 * ((o + i) % 4)
theorem hb_or (o i : Nat) : hb o i = 24 ∨ hb o i = 32 ∨ hb o i = 40 ∨ hb o i = 48 ∨ hb o i = 56 := by
  unfold hb
  omega
theorem hb_ts (o i : Nat) : ([32, 40, 48, 56] : List Nat)[(o + i) % 4]? = some (hb o i) := by
  unfold hb
  have h : (o + i) % 4 < 4 := Nat.mod_lt _ (by decide)
  generalize (o + i) % 4 = j at *
  match j, h with
  | 0, _ => rfl
  | 1, _ => rfl
  | 2, _ => rfl
  | 3, _ => rfl
theorem x_aaldn {U : xP} {G : xG} {own : String} {cc : ByteArray} {K pc : Nat} {L : List (Option xV)} {st : List xV} {M : xM} (hO : xOK U G own cc K) {k t j : Nat} {ts : List Nat} (hk : xk k) (hs : xsh k = .inr (.inl ts)) (ht : ts[j]? = some t) (hl : ts.length < 2 ^ 31) (hd : decode cc pc = .ok (.aaload, 1)) (kk : XW U G (pc + 1) L (.inr t :: st) M) : XW U G pc L (.inl (nI j) :: .inr k :: st) M := by
  have hj : j < ts.length := (List.getElem?_eq_some_iff.mp ht).1
  exact x_aald hO hk hs (vp_in_nI hj hl) (by rw [nI_clamp (by omega)]; exact ht) hd kk
theorem k_record (U : xP) (M : xM) {o c : Nat} (ho : M 1 1 = nI o) (hc : M 1 2 = nI c) (ho4 : o < 4) (hc4 : c ≤ 4) : xMetV U mX0_record [.inr 1, .inr 16] M (fun M' => ∃ o1 c1 : Nat, o1 < 4 ∧ c1 < 4 ∧ M' 1 1 = nI o1 ∧ M' 1 2 = nI (c1 + 1) ∧ (c < 4 → o1 = o ∧ c1 = c) ∧ (c = 4 → o1 = (o + 1) % 4 ∧ c1 = 3) ∧ cA M' (hb o1 c1) = cA M 16 ∧ (∀ j, 7 ≤ j → j < 12 → M' (hb o1 c1) j = M 16 j) ∧ ∀ k, k ≠ 1 → (k < hb o1 c1 ∨ hb o1 c1 + 8 ≤ k) → M' k = M k) := by
  refine xMetV.of (L := [some (.inr 1), some (.inr 16)]) fX0_record rfl rfl (Nat.le_of_ble_eq_true rfl) (fun G hN hO hR => ?_)
  have hN : G.2.2.2.2.2.2.2.2.2.2.1 = 2 := hN
  have hO : xOK U G RX0 cX0_record 2 := hO
  refine x_aload_n hO dX0_record_0 rfl rfl ?_
  refine x_getI (T := TX0) (j := 2) hO dX0_record_1 flX0_19 (by decide) rfl rfl (by decide) rfl rfl ?_
  refine x_iconst (v := nI 4) hO dX0_record_4 rfl ?_
  rw [hc]
  have fin : ∀ (o1 c1 : Nat) (M1 : xM), o1 < 4 → c1 < 4 → M1 1 1 = nI o1 → M1 1 2 = nI c1 → (∀ k, k ≠ 1 → M1 k = M k) → (c < 4 → o1 = o ∧ c1 = c) → (c = 4 → o1 = (o + 1) % 4 ∧ c1 = 3) → XW U G 32 [some (.inr 1), some (.inr 16)] [] M1 := by
    intro o1 c1 M1 h1 h2 h3 h4 h5 h6 h7
    have h16 : M1 16 = M 16 := h5 16 (by decide)
    have hA : cA M1 16 = cA M 16 := cA_ext (fun s hs => cA_row hs hs (fun w hw => by rw [h5 _ (by omega)])) (fun s hs => cA_ge hs)
    refine x_aload_n hO dX0_record_32 rfl rfl ?_
    refine x_aload_n hO dX0_record_33 rfl rfl ?_
    refine x_getR (T := TX0) (j := 0) hO dX0_record_34 flX0_11 (by decide) rfl rfl (by decide) rfl rfl ?_
    refine x_aload_n hO dX0_record_37 rfl rfl ?_
    refine x_getI (T := TX0) (j := 1) hO dX0_record_38 flX0_15 (by decide) rfl rfl (by decide) rfl rfl ?_
    refine x_aload_n hO dX0_record_41 rfl rfl ?_
    refine x_getI (T := TX0) (j := 2) hO dX0_record_42 flX0_19 (by decide) rfl rfl (by decide) rfl rfl ?_
    rw [h3, h4]
    refine x_iadd hO dX0_record_45 ?_
    rw [nI_add]
    refine x_iconst (v := nI 4) hO dX0_record_46 rfl ?_
    refine x_callS1 hO (k_floorMod U M1 (a := o1 + c1) (by omega)) dX0_record_47 lkX0_23 fJ9_floorMod_7cf53 sJ9_floorMod_7cf53 rfl rfl (by decide) (Nat.le_of_ble_eq_true rfl) ?_
    refine x_aaldn hO (by decide) rfl (hb_ts o1 c1) (by decide) dX0_record_50 ?_
    refine x_callSNv hO (k_copyTo U M1 (hb_or o1 c1)) dX0_record_51 lkX0_29 fX3_copyState sX3_copyState rfl rfl (by decide) (Nat.le_of_ble_eq_true rfl) (fun M' h8 => ?_)
    have hb1 : 32 ≤ hb o1 c1 := by unfold hb; omega
    have e1 : M' 1 = M1 1 := h8.2.2 1 (by omega)
    refine x_aload_n hO dX0_record_54 rfl rfl ?_
    refine x_dup hO dX0_record_55 ?_
    refine x_getI (T := TX0) (j := 2) hO dX0_record_56 flX0_19 (by decide) rfl rfl (by decide) rfl rfl ?_
    refine x_iconst (v := nI 1) hO dX0_record_59 rfl ?_
    rw [e1, h4]
    refine x_iadd hO dX0_record_60 ?_
    rw [show nI c1 + nI 1 = nI (c1 + 1) from nI_add c1 1]
    refine x_put (T := TX0) (j := 2) (ty := .int) hO dX0_record_61 flX0_19 (by decide) rfl rfl (by decide) rfl rfl rfl (by decide +kernel) rfl rfl ?_
    refine x_vret hO hR dX0_record_64 ?_
    refine ⟨o1, c1, h1, h2, ?_, ?_, h6, h7, ?_, fun j hj hj2 => ?_, fun k hk1 hk => ?_⟩
    · rw [xset_at, if_pos rfl, if_neg (by decide), e1]
      exact h3
    · rw [xset_at, if_pos rfl, if_pos rfl]
    · rw [← hA, ← h8.1]
      refine cA_ext (fun s hs => cA_row hs hs (fun w hw => ?_)) (fun s hs => cA_ge hs)
      rw [xset_at, if_neg (by omega)]
    · rw [xset_at, if_neg (by omega), h8.2.1 j hj hj2, h16]
    · funext a
      rw [xset_at, if_neg hk1, h8.2.2 k hk, h5 k hk1]
  refine x_icmp_ne (tgt := 32) hO dX0_record_5 (by decide) (fun c1 => ?_) (fun c1 => ?_)
  · have q : ¬ c = 4 := fun z => c1 (by rw [z])
    exact fin o c M ho4 (by omega) ho hc (fun k _ => rfl) (fun _ => ⟨rfl, rfl⟩) (fun z => absurd z q)
  · have q : c = 4 := (nI_eq (by omega) (by decide)).mp c1
    subst q
    refine x_aload_n hO dX0_record_8 rfl rfl ?_
    refine x_aload_n hO dX0_record_9 rfl rfl ?_
    refine x_getI (T := TX0) (j := 1) hO dX0_record_10 flX0_15 (by decide) rfl rfl (by decide) rfl rfl ?_
    rw [ho]
    refine x_iconst (v := nI 1) hO dX0_record_13 rfl ?_
    refine x_iadd hO dX0_record_14 ?_
    rw [nI_add]
    refine x_iconst (v := nI 4) hO dX0_record_15 rfl ?_
    refine x_callS1 hO (k_floorMod U M (a := o + 1) (by omega)) dX0_record_16 lkX0_23 fJ9_floorMod_7cf53 sJ9_floorMod_7cf53 rfl rfl (by decide) (Nat.le_of_ble_eq_true rfl) ?_
    refine x_put (T := TX0) (j := 1) (ty := .int) hO dX0_record_19 flX0_15 (by decide) rfl rfl (by decide) rfl rfl rfl (by decide +kernel) rfl rfl ?_
    refine x_aload_n hO dX0_record_22 rfl rfl ?_
    refine x_dup hO dX0_record_23 ?_
    refine x_getI (T := TX0) (j := 2) hO dX0_record_24 flX0_19 (by decide) rfl rfl (by decide) rfl rfl ?_
    have e2 : xset M 1 1 (nI ((o + 1) % 4)) 1 2 = nI 4 := by rw [xset_at, if_pos rfl, if_neg (by decide), hc]
    rw [e2]
    refine x_iconst (v := nI 1) hO dX0_record_27 rfl ?_
    refine x_isub hO dX0_record_28 ?_
    rw [show nI 4 - nI 1 = nI 3 from by decide]
    refine x_put (T := TX0) (j := 2) (ty := .int) hO dX0_record_29 flX0_19 (by decide) rfl rfl (by decide) rfl rfl rfl (by decide +kernel) rfl rfl ?_
    refine fin ((o + 1) % 4) 3 _ (Nat.mod_lt _ (by decide)) (by decide) ?_ ?_ (fun k hk => ?_) (fun z => absurd z (by decide)) (fun _ => ⟨rfl, rfl⟩)
    · rw [xset_at, if_pos rfl, if_neg (by decide), xset_at, if_pos rfl, if_pos rfl]
    · rw [xset_at, if_pos rfl, if_pos rfl]
    · funext a
      rw [xset_at, if_neg hk, xset_at, if_neg hk]
theorem k_takeLatest (U : xP) (M : xM) {o c : Nat} (ho : M 1 1 = nI o) (hc : M 1 2 = nI (c + 1)) (ho4 : o < 4) (hc4 : c < 4) : xMetV U mX0_takeLatestInto [.inr 1, .inr 16] M (fun M' => M' 1 1 = nI o ∧ M' 1 2 = nI c ∧ cA M' 16 = cA M (hb o c) ∧ (∀ j, 7 ≤ j → j < 12 → M' 16 j = M (hb o c) j) ∧ ∀ k, k ≠ 1 → (k < 16 ∨ 24 ≤ k) → M' k = M k) := by
  refine xMetV.of (L := [some (.inr 1), some (.inr 16)]) fX0_takeLatestInto rfl rfl (Nat.le_of_ble_eq_true rfl) (fun G hN hO hR => ?_)
  have hN : G.2.2.2.2.2.2.2.2.2.2.1 = 2 := hN
  have hO : xOK U G RX0 cX0_takeLatestInto 2 := hO
  refine x_aload_n hO dX0_takeLatestInto_0 rfl rfl ?_
  refine x_getI (T := TX0) (j := 2) hO dX0_takeLatestInto_1 flX0_19 (by decide) rfl rfl (by decide) rfl rfl ?_
  rw [hc]
  refine x_if_le (tgt := 39) hO dX0_takeLatestInto_4 (by decide) (fun c1 => ?_) (fun c1 => ?_)
  · exact absurd c1 (nI_nle (by omega) (by omega))
  · refine x_aload_n hO dX0_takeLatestInto_7 rfl rfl ?_
    refine x_dup hO dX0_takeLatestInto_8 ?_
    refine x_getI (T := TX0) (j := 2) hO dX0_takeLatestInto_9 flX0_19 (by decide) rfl rfl (by decide) rfl rfl ?_
    rw [hc]
    refine x_iconst (v := nI 1) hO dX0_takeLatestInto_12 rfl ?_
    refine x_isub hO dX0_takeLatestInto_13 ?_
    rw [nI_sub1]
    refine x_put (T := TX0) (j := 2) (ty := .int) hO dX0_takeLatestInto_14 flX0_19 (by decide) rfl rfl (by decide) rfl rfl rfl (by decide +kernel) rfl rfl ?_
    have e1 : xset M 1 2 (nI c) 1 1 = nI o := by rw [xset_at, if_pos rfl, if_neg (by decide), ho]
    have e2 : xset M 1 2 (nI c) 1 2 = nI c := by rw [xset_at, if_pos rfl, if_pos rfl]
    have e3 : ∀ k, k ≠ 1 → xset M 1 2 (nI c) k = M k := fun k hk => by funext a; rw [xset_at, if_neg hk]
    generalize xset M 1 2 (nI c) = M1 at *
    refine x_aload_n hO dX0_takeLatestInto_17 rfl rfl ?_
    refine x_getR (T := TX0) (j := 0) hO dX0_takeLatestInto_18 flX0_11 (by decide) rfl rfl (by decide) rfl rfl ?_
    refine x_aload_n hO dX0_takeLatestInto_21 rfl rfl ?_
    refine x_getI (T := TX0) (j := 1) hO dX0_takeLatestInto_22 flX0_15 (by decide) rfl rfl (by decide) rfl rfl ?_
    refine x_aload_n hO dX0_takeLatestInto_25 rfl rfl ?_
    refine x_getI (T := TX0) (j := 2) hO dX0_takeLatestInto_26 flX0_19 (by decide) rfl rfl (by decide) rfl rfl ?_
    rw [e1, e2]
    refine x_iadd hO dX0_takeLatestInto_29 ?_
    rw [nI_add]
    refine x_iconst (v := nI 4) hO dX0_takeLatestInto_30 rfl ?_
    refine x_callS1 hO (k_floorMod U M1 (a := o + c) (by omega)) dX0_takeLatestInto_31 lkX0_23 fJ9_floorMod_7cf53 sJ9_floorMod_7cf53 rfl rfl (by decide) (Nat.le_of_ble_eq_true rfl) ?_
    refine x_aaldn hO (by decide) rfl (hb_ts o c) (by decide) dX0_takeLatestInto_34 ?_
    refine x_aload_n hO dX0_takeLatestInto_35 rfl rfl ?_
    refine x_callSNv hO (k_copyOf U M1 (hb_or o c)) dX0_takeLatestInto_36 lkX0_29 fX3_copyState sX3_copyState rfl rfl (by decide) (Nat.le_of_ble_eq_true rfl) (fun M' h8 => ?_)
    refine x_vret hO hR dX0_takeLatestInto_39 ?_
    have hb1 : 32 ≤ hb o c := by unfold hb; omega
    have f1 : M' 1 = M1 1 := h8.2.2 1 (by omega)
    refine ⟨by rw [f1]; exact e1, by rw [f1]; exact e2, ?_, fun j hj hj2 => ?_, fun k hk1 hk => ?_⟩
    · rw [h8.1]
      exact cA_ext (fun s hs => cA_row hs hs (fun w hw => by rw [e3 _ (by omega)])) (fun s hs => cA_ge hs)
    · rw [h8.2.1 j hj hj2, e3 _ (by omega)]
    · rw [h8.2.2 k hk, e3 k hk1]
end
section
/-! ===== what a text says: T its characters, n their number ===== -/
abbrev tT : Type := Nat → Int32
def sg (T : tT) (n p : Nat) : Int32 := if p < n then T p else -1
def isBt (x : Int32) : Bool := x == nI 48 || (x == nI 49 || x == nI 42)
def isD (x : Int32) : Bool := decide (nI 48 ≤ x) && decide (x ≤ nI 57)
/-- how many of the eight characters from p on are bits, till the first that isn't -/
def rE (T : tT) (n p : Nat) : Nat := nF (fun i => !isBt (sg T n (p + i))) 0 8
/-- the mask and the value of the first i characters from p on -/
def eM (T : tT) (p : Nat) : Nat → Nat
  | 0 => 0
  | i + 1 => eM T p i + (if T (p + i) = nI 42 then 0 else 128 / 2 ^ i)
def eV (T : tT) (p : Nat) : Nat → Nat
  | 0 => 0
  | i + 1 => eV T p i + (if T (p + i) = nI 49 then 128 / 2 ^ i else 0)
/-- how many digits the rank has -/
def rK (T : tT) (n p : Nat) : Nat := if isD (sg T n (p + 10)) then 2 else 1
def rOK (T : tT) (n p : Nat) : Bool := decide (rE T n p = 8) && ((sg T n (p + 8) == nI 44) && (isD (sg T n (p + 9)) && ((sg T n (p + 9 + rK T n p) == nI 44) && isD (sg T n (p + 10 + rK T n p)))))
/-- where the rule from p on ends, or its fault -/
def rEnd (T : tT) (n p : Nat) : Nat := if rE T n p = 8 then (if sg T n (p + 8) = nI 44 then (if isD (sg T n (p + 9)) then (if sg T n (p + 9 + rK T n p) = nI 44 then (if isD (sg T n (p + 10 + rK T n p)) then p + 11 + rK T n p else p + 10 + rK T n p) else p + 9 + rK T n p) else p + 9) else p + 8) else p + rE T n p
def rRank (T : tT) (n p : Nat) : Int32 := if isD (sg T n (p + 10)) then nI 10 * (T (p + 9) - nI 48) + (T (p + 10) - nI 48) else T (p + 9) - nI 48
def rAct (T : tT) (n p : Nat) : Int32 := T (p + 10 + rK T n p) - nI 48
/-- the rules from p on, i have been read: whether the text is good, where it ends or its fault, how many rules -/
def tx (T : tT) (n : Nat) : Nat → Nat → Nat → Bool × Nat × Nat
  | 0, p, i => (false, p, i)
  | d + 1, p, i => if rOK T n p then (if rEnd T n p = n then (true, rEnd T n p, i + 1) else if sg T n (rEnd T n p) = nI 59 then tx T n d (rEnd T n p + 1) (i + 1) else (false, rEnd T n p, i + 1)) else (false, rEnd T n p, i)
/-- where the rule i begins -/
def tB (T : tT) (n : Nat) : Nat → Nat
  | 0 => 0
  | i + 1 => rEnd T n (tB T n i) + 1
theorem sg_in {T : tT} {n p : Nat} (h : p < n) : sg T n p = T p := if_pos h
theorem sg_out {T : tT} {n p : Nat} (h : n ≤ p) : sg T n p = -1 := if_neg (by omega)
theorem sg_lt {T : tT} {n p : Nat} {x : Int32} (h : sg T n p = x) (hx : x ≠ -1) : p < n := by
  rcases Nat.lt_or_ge p n with q | q
  · exact q
  · rw [sg_out q] at h
    exact absurd h.symm hx
theorem isD_lt {T : tT} {n p : Nat} (h : isD (sg T n p) = true) : p < n := by
  rcases Nat.lt_or_ge p n with q | q
  · exact q
  · rw [sg_out q] at h
    exact absurd h (by decide)
theorem isBt_lt {T : tT} {n p : Nat} (h : isBt (sg T n p) = true) : p < n := by
  rcases Nat.lt_or_ge p n with q | q
  · exact q
  · rw [sg_out q] at h
    exact absurd h (by decide)
theorem isD_n {x : Int32} (h : isD x = true) : ∃ j : Nat, j ≤ 9 ∧ x = nI (48 + j) := by
  simp only [isD, Bool.and_eq_true, decide_eq_true_eq] at h
  have h0 : ¬ x < 0 := by
    have := h.1
    rw [Int32.le_iff_toInt_le, nI_toInt (by decide)] at this
    rw [Int32.lt_iff_toInt_lt, show (0 : Int32).toInt = 0 from rfl]
    omega
  obtain ⟨k, hk, rfl⟩ := nI_of h0
  have a := (nI_leI (by decide) hk).mp h.1
  have b := (nI_leI hk (by decide)).mp h.2
  exact ⟨k - 48, by omega, by rw [show 48 + (k - 48) = k by omega]⟩
theorem rE_le (T : tT) (n p : Nat) : rE T n p ≤ 8 := by have := (nF_le (P := fun i => !isBt (sg T n (p + i))) 8 0).2; exact this
theorem rE_bt {T : tT} {n p i : Nat} (h : i < rE T n p) : isBt (sg T n (p + i)) = true := by
  have := nF_no (P := fun i => !isBt (sg T n (p + i))) 8 0 i (Nat.zero_le _) h
  simpa using this
theorem rE_lt {T : tT} {n p : Nat} (h : 0 < rE T n p) : p + rE T n p ≤ n := by
  have := isBt_lt (rE_bt (T := T) (n := n) (p := p) (i := rE T n p - 1) (by omega))
  omega
theorem eM_le (T : tT) (p : Nat) : ∀ i, i ≤ 8 → eM T p i + 256 / 2 ^ i ≤ 256
  | 0, _ => by simp [eM]
  | i + 1, h => by
    have ih := eM_le T p i (by omega)
    have e : 128 / 2 ^ i + 256 / 2 ^ (i + 1) ≤ 256 / 2 ^ i := by
      obtain rfl | rfl | rfl | rfl | rfl | rfl | rfl | rfl : i = 0 ∨ i = 1 ∨ i = 2 ∨ i = 3 ∨ i = 4 ∨ i = 5 ∨ i = 6 ∨ i = 7 := by omega
      all_goals decide
    simp only [eM]
    generalize 128 / 2 ^ i = u at *
    generalize 256 / 2 ^ (i + 1) = v at *
    generalize 256 / 2 ^ i = w at *
    split <;> omega
theorem eV_le (T : tT) (p : Nat) : ∀ i, i ≤ 8 → eV T p i + 256 / 2 ^ i ≤ 256
  | 0, _ => by simp [eV]
  | i + 1, h => by
    have ih := eV_le T p i (by omega)
    have e : 128 / 2 ^ i + 256 / 2 ^ (i + 1) ≤ 256 / 2 ^ i := by
      obtain rfl | rfl | rfl | rfl | rfl | rfl | rfl | rfl : i = 0 ∨ i = 1 ∨ i = 2 ∨ i = 3 ∨ i = 4 ∨ i = 5 ∨ i = 6 ∨ i = 7 := by omega
      all_goals decide
    simp only [eV]
    generalize 128 / 2 ^ i = u at *
    generalize 256 / 2 ^ (i + 1) = v at *
    generalize 256 / 2 ^ i = w at *
    split <;> omega
theorem rK_12 (T : tT) (n p : Nat) : rK T n p = 1 ∨ rK T n p = 2 := by
  unfold rK
  split
  · exact Or.inr rfl
  · exact Or.inl rfl
theorem rOK_end {T : tT} {n p : Nat} (h : rOK T n p = true) : rEnd T n p = p + 11 + rK T n p ∧ p + 11 + rK T n p ≤ n := by
  simp only [rOK, Bool.and_eq_true, decide_eq_true_eq, beq_iff_eq] at h
  obtain ⟨h1, h2, h3, h4, h5⟩ := h
  have := isD_lt h5
  refine ⟨?_, by omega⟩
  unfold rEnd
  rw [if_pos h1, if_pos h2, if_pos h3, if_pos h4, if_pos h5]
theorem rEnd_le (T : tT) {n p : Nat} (h : p ≤ n) : rEnd T n p ≤ n := by
  have e := rE_le T n p
  unfold rEnd
  split
  · rename_i h1
    have a := rE_lt (T := T) (n := n) (p := p) (by omega)
    split
    · rename_i h2
      have a2 := sg_lt h2 (by decide)
      split
      · rename_i h3
        have a3 := isD_lt h3
        have k := rK_12 T n p
        have ak : p + 9 + rK T n p ≤ n := by
          unfold rK
          split
          · rename_i q
            have := isD_lt q
            omega
          · omega
        split
        · rename_i h4
          have a4 := sg_lt h4 (by decide)
          split
          · rename_i h5
            have := isD_lt h5
            omega
          · omega
        · exact ak
      · omega
    · omega
  · rename_i h1
    rcases Nat.eq_zero_or_pos (rE T n p) with q | q
    · omega
    · exact rE_lt q
theorem upd_at (f : Nat → Int32) (k : Nat) (x : Int32) (j : Nat) : upd f k x j = if j = k then x else f j := rfl
theorem upd_up (f : Nat → Int32) (k : Nat) (x y : Int32) : upd (upd f k x) k y = upd f k y := by
  funext j
  simp only [upd_at]
  split <;> rfl
theorem xset_same (M : xM) (k j : Nat) (x : Int32) : xset M k j x k = upd (M k) j x := by
  funext a
  rw [xset_at, if_pos rfl]
  rfl
theorem xset_ne (M : xM) {k k2 : Nat} (j : Nat) (x : Int32) (h : k2 ≠ k) : xset M k j x k2 = M k2 := by
  funext a
  rw [xset_at, if_neg h]
/-! ===== RuleText ===== -/
theorem k_sign (U : xP) (M : xM) {n p : Nat} (h1 : M 3 1 = nI n) (h2 : M 3 2 = nI p) (hn : n ≤ 60) (hp : p ≤ n) : xMetI U mX2_sign [.inr 3] M (fun r M' => r = sg (M 4) n p ∧ M' = M) := by
  refine xMetI.of (ty := .int) (L := [some (.inr 3)]) fX2_sign rfl rfl (Nat.le_of_ble_eq_true rfl) (fun G hN hO hR => ?_)
  have hN : G.2.2.2.2.2.2.2.2.2.2.1 = 1 := hN
  have hO : xOK U G RX2 cX2_sign 0 := hO
  unfold sg at hR
  refine x_aload_n hO dX2_sign_0 rfl rfl ?_
  refine x_getI (T := TX2) (j := 2) hO dX2_sign_1 flX2_19 (by decide) rfl rfl (by decide) rfl rfl ?_
  rw [h2]
  refine x_if_lt (tgt := 39) hO dX2_sign_4 (by decide) (fun c => ?_) (fun c => ?_)
  · exact absurd c (nI_pos (by omega))
  · refine x_aload_n hO dX2_sign_7 rfl rfl ?_
    refine x_getI (T := TX2) (j := 2) hO dX2_sign_8 flX2_19 (by decide) rfl rfl (by decide) rfl rfl ?_
    refine x_aload_n hO dX2_sign_11 rfl rfl ?_
    refine x_getI (T := TX2) (j := 1) hO dX2_sign_12 flX2_15 (by decide) rfl rfl (by decide) rfl rfl ?_
    rw [h1, h2]
    refine x_icmp_ge (tgt := 39) hO dX2_sign_15 (by decide) (fun c1 => ?_) (fun c1 => ?_)
    · have q : n ≤ p := (nI_leI (by omega) (by omega)).mp c1
      rw [if_neg (by omega)] at hR
      refine x_iconst (v := (-1 : Int32)) hO dX2_sign_39 rfl ?_
      refine x_iret hO hR dX2_sign_40 rfl ?_
      exact ⟨rfl, rfl⟩
    · have q : p < n := by
        rcases Nat.lt_or_ge p n with q | q
        · exact q
        · exact absurd ((nI_leI (by omega) (by omega)).mpr q) c1
      rw [if_pos q] at hR
      refine x_aload_n hO dX2_sign_18 rfl rfl ?_
      refine x_getI (T := TX2) (j := 2) hO dX2_sign_19 flX2_19 (by decide) rfl rfl (by decide) rfl rfl ?_
      refine x_bipush (v := nI 60) hO dX2_sign_22 rfl ?_
      rw [h2]
      refine x_icmp_ge (tgt := 39) hO dX2_sign_24 (by decide) (fun c2 => ?_) (fun c2 => ?_)
      · exact absurd c2 (nI_ge (by omega) (by decide))
      · have hp60 : p < 60 := by omega
        refine x_aload_n hO dX2_sign_27 rfl rfl ?_
        refine x_getR (T := TX2) (j := 0) hO dX2_sign_28 flX2_11 (by decide) rfl rfl (by decide) rfl rfl ?_
        refine x_aload_n hO dX2_sign_31 rfl rfl ?_
        refine x_getI (T := TX2) (j := 2) hO dX2_sign_32 flX2_19 (by decide) rfl rfl (by decide) rfl rfl ?_
        refine x_iald hO (by decide) rfl (by decide) (h2) (hp60) dX2_sign_35 ?_
        refine x_goto (tgt := 40) hO dX2_sign_36 (by decide) ?_
        refine x_iret hO hR dX2_sign_40 rfl ?_
        exact ⟨rfl, rfl⟩
def dgI (x : Int32) : Int32 := if isD x then x - nI 48 else -1
theorem k_digit (U : xP) (M : xM) {n p : Nat} (h1 : M 3 1 = nI n) (h2 : M 3 2 = nI p) (hn : n ≤ 60) (hp : p ≤ n) : xMetI U mX2_digit [.inr 3] M (fun r M' => r = dgI (sg (M 4) n p) ∧ M' = M) := by
  refine xMetI.of (ty := .int) (L := [some (.inr 3), none]) fX2_digit rfl rfl (Nat.le_of_ble_eq_true rfl) (fun G hN hO hR => ?_)
  have hN : G.2.2.2.2.2.2.2.2.2.2.1 = 2 := hN
  have hO : xOK U G RX2 cX2_digit 1 := hO
  unfold dgI at hR
  refine x_aload_n hO dX2_digit_0 rfl rfl ?_
  refine x_callV1 hO (k_sign U M h1 h2 hn hp) dX2_digit_1 lkX2_51 fX2_sign vX2_sign (by decide) rfl rfl rfl rfl rfl (by decide) (Nat.le_of_ble_eq_true rfl) ?_
  generalize sg (M 4) n p = x at *
  refine x_istore_n (n := 2) hO dX2_digit_4 rfl rfl (by decide) hN ?_
  refine x_iload_n hO dX2_digit_5 rfl rfl ?_
  refine x_bipush (v := nI 48) hO dX2_digit_6 rfl ?_
  refine x_icmp_lt (tgt := 24) hO dX2_digit_8 (by decide) (fun c => ?_) (fun c => ?_)
  · rw [if_neg (by simp [isD, Int32.not_le.mpr c])] at hR
    refine x_iconst (v := (-1 : Int32)) hO dX2_digit_24 rfl ?_
    refine x_iret hO hR dX2_digit_25 rfl ?_
    exact ⟨rfl, rfl⟩
  · refine x_iload_n hO dX2_digit_11 rfl rfl ?_
    refine x_bipush (v := nI 57) hO dX2_digit_12 rfl ?_
    refine x_icmp_gt (tgt := 24) hO dX2_digit_14 (by decide) (fun c2 => ?_) (fun c2 => ?_)
    · rw [if_neg (by simp [isD, Int32.not_le.mpr c2])] at hR
      refine x_iconst (v := (-1 : Int32)) hO dX2_digit_24 rfl ?_
      refine x_iret hO hR dX2_digit_25 rfl ?_
      exact ⟨rfl, rfl⟩
    · rw [if_pos (by simp [isD, Int32.not_lt.mp c, Int32.not_lt.mp c2])] at hR
      refine x_iload_n hO dX2_digit_17 rfl rfl ?_
      refine x_bipush (v := nI 48) hO dX2_digit_18 rfl ?_
      refine x_isub hO dX2_digit_20 ?_
      refine x_goto (tgt := 25) hO dX2_digit_21 (by decide) ?_
      refine x_iret hO hR dX2_digit_25 rfl ?_
      exact ⟨rfl, rfl⟩
theorem dgI_neg {x : Int32} : dgI x < 0 ↔ isD x = false := by
  unfold dgI
  cases h : isD x with
  | false => simp
  | true =>
    obtain ⟨j, hj, rfl⟩ := isD_n h
    rw [if_pos rfl, pk_sub (by omega)]
    simp
    exact Int32.not_lt.mp (nI_pos (by omega))
theorem dgI_ge {x : Int32} : 0 ≤ dgI x ↔ isD x = true := by
  rw [← Int32.not_lt, dgI_neg]
  simp
theorem k_skip (U : xP) (M : xM) {n p : Nat} (h1 : M 3 1 = nI n) (h2 : M 3 2 = nI p) (hn : n ≤ 60) (hp : p ≤ n) (x : Int32) : xMetI U mX2_skip [.inr 3, .inl x] M (fun r M' => r = bI (sg (M 4) n p == x) ∧ M' = if sg (M 4) n p = x then xset M 3 2 (nI (p + 1)) else M) := by
  refine xMetI.of (ty := .boolean) (L := [some (.inr 3), some (.inl x)]) fX2_skip rfl rfl (Nat.le_of_ble_eq_true rfl) (fun G hN hO hR => ?_)
  have hN : G.2.2.2.2.2.2.2.2.2.2.1 = 2 := hN
  have hO : xOK U G RX2 cX2_skip 1 := hO
  refine x_aload_n hO dX2_skip_0 rfl rfl ?_
  refine x_callV1 hO (k_sign U M h1 h2 hn hp) dX2_skip_1 lkX2_51 fX2_sign vX2_sign (by decide) rfl rfl rfl rfl rfl (by decide) (Nat.le_of_ble_eq_true rfl) ?_
  refine x_iload_n hO dX2_skip_4 rfl rfl ?_
  refine x_icmp_eq (tgt := 10) hO dX2_skip_5 (by decide) (fun c => ?_) (fun c => ?_)
  · rw [if_pos c] at hR
    refine x_aload_n hO dX2_skip_10 rfl rfl ?_
    refine x_dup hO dX2_skip_11 ?_
    refine x_getI (T := TX2) (j := 2) hO dX2_skip_12 flX2_19 (by decide) rfl rfl (by decide) rfl rfl ?_
    refine x_iconst (v := nI 1) hO dX2_skip_15 rfl ?_
    rw [h2]
    refine x_iadd hO dX2_skip_16 ?_
    rw [nI_add]
    refine x_put (T := TX2) (j := 2) (ty := .int) hO dX2_skip_17 flX2_19 (by decide) rfl rfl (by decide) rfl rfl rfl (by decide +kernel) rfl rfl ?_
    refine x_iconst (v := nI 1) hO dX2_skip_20 rfl ?_
    refine x_iret hO hR dX2_skip_21 rfl ?_
    exact ⟨bI_t (by simp [c]), rfl⟩
  · rw [if_neg c] at hR
    refine x_iconst (v := nI 0) hO dX2_skip_8 rfl ?_
    refine x_iret hO hR dX2_skip_9 rfl ?_
    exact ⟨bI_f (by simp [c]), rfl⟩
theorem k_readEntry (U : xP) (M : xM) {n p r : Nat} (h1 : M 3 1 = nI n) (h2 : M 3 2 = nI p) (hn : n ≤ 60) (hp : p ≤ n) (hr : r < 5) : xMetI U mX2_readEntry [.inr 3, .inl (nI r)] M (fun v M' => v = bI (decide (rE (M 4) n p = 8)) ∧ M' 3 = upd (M 3) 2 (nI (p + rE (M 4) n p)) ∧ (rE (M 4) n p = 8 → M' 5 = upd (M 5) r (nI (eM (M 4) p 8)) ∧ M' 6 = upd (M 6) r (nI (eV (M 4) p 8))) ∧ ∀ k, k ≠ 3 → k ≠ 5 → k ≠ 6 → M' k = M k) := by
  refine xMetI.of (ty := .boolean) (L := [some (.inr 3), some (.inl (nI r)), none, none, none, none]) fX2_readEntry rfl rfl (Nat.le_of_ble_eq_true rfl) (fun G hN hO hR => ?_)
  have hN : G.2.2.2.2.2.2.2.2.2.2.1 = 6 := hN
  have hO : xOK U G RX2 cX2_readEntry 1 := hO
  generalize hg : rE (M 4) n p = g at hR
  have hge : g ≤ 8 := by rw [← hg]; exact rE_le _ _ _
  refine x_iconst (v := nI 0) hO dX2_readEntry_0 rfl ?_
  refine x_istore_n (n := 6) hO dX2_readEntry_1 rfl rfl (by decide) hN ?_
  refine x_iconst (v := nI 0) hO dX2_readEntry_2 rfl ?_
  refine x_istore_n (n := 6) hO dX2_readEntry_3 rfl rfl (by decide) hN ?_
  refine x_sipush (v := nI 128) hO dX2_readEntry_4 rfl ?_
  refine x_istore (n := 6) hO dX2_readEntry_7 rfl (by decide) hN ?_
  refine upd_ind (P := fun i d => ∀ (o : Option xV) (M1 : xM), p + i ≤ n ∨ i = 0 → nF (fun i => !isBt (sg (M 4) n (p + i))) i d = g → M1 3 = upd (M 3) 2 (nI (p + i)) → (∀ k, k ≠ 3 → M1 k = M k) → XW U G 9 [some (.inr 3), some (.inl (nI r)), some (.inl (nI (eM (M 4) p i))), some (.inl (nI (eV (M 4) p i))), some (.inl (nI (128 / 2 ^ i))), o] [] M1) 8 ?_ ?_ 8 0 rfl _ M (Or.inr rfl) hg ?_ (fun k _ => rfl)
  · intro o M1 _ hg2 h3 h4
    have g8 : g = 8 := hg2.symm
    subst g8
    refine x_iload hO dX2_readEntry_9 rfl ?_
    refine x_if_le (tgt := 94) hO dX2_readEntry_11 (by decide) (fun c => ?_) (fun c => ?_)
    · refine x_iload_n hO dX2_readEntry_94 rfl rfl ?_
      refine x_if_lt (tgt := 117) hO dX2_readEntry_95 (by decide) (fun c1 => ?_) (fun c1 => ?_)
      · exact absurd c1 (nI_pos (by omega))
      · refine x_iload_n hO dX2_readEntry_98 rfl rfl ?_
        refine x_iconst (v := nI 5) hO dX2_readEntry_99 rfl ?_
        refine x_icmp_ge (tgt := 117) hO dX2_readEntry_100 (by decide) (fun c2 => ?_) (fun c2 => ?_)
        · exact absurd c2 (nI_ge hr (by decide))
        · refine x_aload_n hO dX2_readEntry_103 rfl rfl ?_
          refine x_getR (T := TX2) (j := 4) hO dX2_readEntry_104 flX2_25 (by decide) rfl rfl (by decide) rfl rfl ?_
          refine x_iload_n hO dX2_readEntry_107 rfl rfl ?_
          refine x_iload_n hO dX2_readEntry_108 rfl rfl ?_
          refine x_iast hO (by decide) rfl (by decide) (rfl) (hr) dX2_readEntry_109 ?_
          refine x_aload_n hO dX2_readEntry_110 rfl rfl ?_
          refine x_getR (T := TX2) (j := 5) hO dX2_readEntry_111 flX2_28 (by decide) rfl rfl (by decide) rfl rfl ?_
          refine x_iload_n hO dX2_readEntry_114 rfl rfl ?_
          refine x_iload_n hO dX2_readEntry_115 rfl rfl ?_
          refine x_iast hO (by decide) rfl (by decide) (rfl) (hr) dX2_readEntry_116 ?_
          refine x_iconst (v := nI 1) hO dX2_readEntry_117 rfl ?_
          refine x_iret hO hR dX2_readEntry_118 rfl ?_
          refine ⟨bI_t rfl, ?_, fun _ => ⟨?_, ?_⟩, fun k n3 n5 n6 => ?_⟩
          · rw [xset_ne _ _ _ (by decide), xset_ne _ _ _ (by decide)]
            exact h3
          · rw [xset_ne _ _ _ (by decide), xset_same, h4 5 (by decide)]
          · rw [xset_same, xset_ne _ _ _ (by decide), h4 6 (by decide)]
          · rw [xset_ne _ _ _ n6, xset_ne _ _ _ n5, h4 k n3]
    · exact absurd (by decide) c
  · intro i d hd ih o M1 hpi hg2 h3 h4
    have hi : i < 8 := by omega
    have b31 : M1 3 1 = nI n := by rw [h3]; exact h1
    have b32 : M1 3 2 = nI (p + i) := by rw [h3]; rfl
    have hpos : 0 < 128 / 2 ^ i := by
      obtain rfl | rfl | rfl | rfl | rfl | rfl | rfl | rfl : i = 0 ∨ i = 1 ∨ i = 2 ∨ i = 3 ∨ i = 4 ∨ i = 5 ∨ i = 6 ∨ i = 7 := by omega
      all_goals decide
    have hle : 128 / 2 ^ i ≤ 128 := Nat.div_le_self _ _
    have hh : 128 / 2 ^ i / 2 = 128 / 2 ^ (i + 1) := by rw [Nat.div_div_eq_div_mul, Nat.pow_succ]
    refine x_iload hO dX2_readEntry_9 rfl ?_
    refine x_if_le (tgt := 94) hO dX2_readEntry_11 (by decide) (fun c => ?_) (fun c => ?_)
    · exact absurd c (nI_nle hpos (by omega))
    · refine x_aload_n hO dX2_readEntry_14 rfl rfl ?_
      refine x_callV1 hO (k_sign U M1 b31 b32 hn (by omega)) dX2_readEntry_15 lkX2_51 fX2_sign vX2_sign (by decide) rfl rfl rfl rfl rfl (by decide) (Nat.le_of_ble_eq_true rfl) ?_
      rw [h4 4 (by decide)]
      have tail : ∀ (m v : Nat), m = eM (M 4) p (i + 1) → v = eV (M 4) p (i + 1) → isBt (sg (M 4) n (p + i)) = true → ∀ o, XW U G 75 [some (.inr 3), some (.inl (nI r)), some (.inl (nI m)), some (.inl (nI v)), some (.inl (nI (128 / 2 ^ i))), o] [] M1 := by
        intro m v hm hv hb o
        have hlt := isBt_lt hb
        refine x_aload_n hO dX2_readEntry_75 rfl rfl ?_
        refine x_dup hO dX2_readEntry_76 ?_
        refine x_getI (T := TX2) (j := 2) hO dX2_readEntry_77 flX2_19 (by decide) rfl rfl (by decide) rfl rfl ?_
        rw [b32]
        refine x_iconst (v := nI 1) hO dX2_readEntry_80 rfl ?_
        refine x_iadd hO dX2_readEntry_81 ?_
        rw [nI_add]
        refine x_put (T := TX2) (j := 2) (ty := .int) hO dX2_readEntry_82 flX2_19 (by decide) rfl rfl (by decide) rfl rfl rfl (by decide +kernel) rfl rfl ?_
        refine x_iload hO dX2_readEntry_85 rfl ?_
        have n2 : ¬ nI 2 = 0 := by decide
        refine x_iconst (v := nI 2) hO dX2_readEntry_87 rfl ?_
        refine x_idiv hO dX2_readEntry_88 (n2) ?_
        rw [pk_div (by omega) (by decide) (by decide), hh, hm, hv]
        refine x_istore (n := 6) hO dX2_readEntry_89 rfl (by decide) hN ?_
        refine x_goto (tgt := 9) hO dX2_readEntry_91 (by decide) ?_
        refine ih _ _ (Or.inl (by omega)) (by rw [← hg2, nF_f (P := fun i => !isBt (sg (M 4) n (p + i))) (by simp [hb])]) ?_ (fun k hk => ?_)
        · rw [xset_same, h3, upd_up]
          rfl
        · rw [xset_ne _ _ _ hk, h4 k hk]
      have good : isBt (sg (M 4) n (p + i)) = true → XW U G 43 [some (.inr 3), some (.inl (nI r)), some (.inl (nI (eM (M 4) p i))), some (.inl (nI (eV (M 4) p i))), some (.inl (nI (128 / 2 ^ i))), some (.inl (sg (M 4) n (p + i)))] [] M1 := by
        intro hb
        have hs : sg (M 4) n (p + i) = M 4 (p + i) := sg_in (isBt_lt hb)
        have second : ∀ m : Nat, m = eM (M 4) p (i + 1) → XW U G 59 [some (.inr 3), some (.inl (nI r)), some (.inl (nI m)), some (.inl (nI (eV (M 4) p i))), some (.inl (nI (128 / 2 ^ i))), some (.inl (sg (M 4) n (p + i)))] [] M1 := by
          intro m hm
          refine x_iload_n hO dX2_readEntry_59 rfl rfl ?_
          refine x_iload hO dX2_readEntry_60 rfl ?_
          refine x_bipush (v := nI 49) hO dX2_readEntry_62 rfl ?_
          refine x_icmp_ne (tgt := 72) hO dX2_readEntry_64 (by decide) (fun c5 => ?_) (fun c5 => ?_)
          · refine x_iconst (v := nI 0) hO dX2_readEntry_72 rfl ?_
            refine x_iadd hO dX2_readEntry_73 ?_
            rw [nI_add]
            refine x_istore_n (n := 6) hO dX2_readEntry_74 rfl rfl (by decide) hN ?_
            exact tail m _ hm (by simp only [eV]; rw [if_neg (by rw [← hs]; exact c5)]) hb _
          · refine x_iload hO dX2_readEntry_67 rfl ?_
            refine x_goto (tgt := 73) hO dX2_readEntry_69 (by decide) ?_
            refine x_iadd hO dX2_readEntry_73 ?_
            rw [nI_add]
            refine x_istore_n (n := 6) hO dX2_readEntry_74 rfl rfl (by decide) hN ?_
            exact tail m _ hm (by simp only [eV]; rw [if_pos (by rw [← hs]; exact c5)]) hb _
        refine x_iload_n hO dX2_readEntry_43 rfl rfl ?_
        refine x_iload hO dX2_readEntry_44 rfl ?_
        refine x_bipush (v := nI 42) hO dX2_readEntry_46 rfl ?_
        refine x_icmp_ne (tgt := 55) hO dX2_readEntry_48 (by decide) (fun c5 => ?_) (fun c5 => ?_)
        · refine x_iload hO dX2_readEntry_55 rfl ?_
          refine x_iadd hO dX2_readEntry_57 ?_
          rw [nI_add]
          refine x_istore_n (n := 6) hO dX2_readEntry_58 rfl rfl (by decide) hN ?_
          exact second _ (by simp only [eM]; rw [if_neg (by rw [← hs]; exact c5)])
        · refine x_iconst (v := nI 0) hO dX2_readEntry_51 rfl ?_
          refine x_goto (tgt := 57) hO dX2_readEntry_52 (by decide) ?_
          refine x_iadd hO dX2_readEntry_57 ?_
          rw [nI_add]
          refine x_istore_n (n := 6) hO dX2_readEntry_58 rfl rfl (by decide) hN ?_
          exact second _ (by simp only [eM]; rw [if_pos (by rw [← hs]; exact c5)])
      refine x_istore (n := 6) hO dX2_readEntry_18 rfl (by decide) hN ?_
      refine x_iload hO dX2_readEntry_20 rfl ?_
      refine x_bipush (v := nI 48) hO dX2_readEntry_22 rfl ?_
      refine x_icmp_eq (tgt := 43) hO dX2_readEntry_24 (by decide) (fun c1 => ?_) (fun c1 => ?_)
      · exact good (by simp [isBt, c1])
      · refine x_iload hO dX2_readEntry_27 rfl ?_
        refine x_bipush (v := nI 49) hO dX2_readEntry_29 rfl ?_
        refine x_icmp_eq (tgt := 43) hO dX2_readEntry_31 (by decide) (fun c2 => ?_) (fun c2 => ?_)
        · exact good (by simp [isBt, c2])
        · refine x_iload hO dX2_readEntry_34 rfl ?_
          refine x_bipush (v := nI 42) hO dX2_readEntry_36 rfl ?_
          refine x_icmp_eq (tgt := 43) hO dX2_readEntry_38 (by decide) (fun c3 => ?_) (fun c3 => ?_)
          · exact good (by simp [isBt, c3])
          · refine x_iconst (v := nI 0) hO dX2_readEntry_41 rfl ?_
            refine x_iret hO hR dX2_readEntry_42 rfl ?_
            have hgi : g = i := by rw [← hg2, nF_t (P := fun i => !isBt (sg (M 4) n (p + i))) (by simp [isBt, c1, c2, c3])]
            subst hgi
            exact ⟨bI_f (by simp; omega), h3, fun z => by omega, fun k n3 _ _ => h4 k n3⟩
  · funext j
    rw [upd_at]
    split
    · rename_i e
      rw [e]
      exact h2
    · rfl
theorem k_readRank (U : xP) (M : xM) {n p r : Nat} (h1 : M 3 1 = nI n) (h2 : M 3 2 = nI p) (hn : n ≤ 60) (hp : p ≤ n) (hr : r < 5) : xMetI U mX2_readRank [.inr 3, .inl (nI r)] M (fun v M' => v = bI (isD (sg (M 4) n p)) ∧ M' 3 = upd (M 3) 2 (nI (if isD (sg (M 4) n p) then (if isD (sg (M 4) n (p + 1)) then p + 2 else p + 1) else p)) ∧ (isD (sg (M 4) n p) = true → M' 7 = upd (M 7) r (if isD (sg (M 4) n (p + 1)) then nI 10 * (M 4 p - nI 48) + (M 4 (p + 1) - nI 48) else M 4 p - nI 48)) ∧ ∀ k, k ≠ 3 → k ≠ 7 → M' k = M k) := by
  refine xMetI.of (ty := .boolean) (L := [some (.inr 3), some (.inl (nI r)), none, none]) fX2_readRank rfl rfl (Nat.le_of_ble_eq_true rfl) (fun G hN hO hR => ?_)
  have hN : G.2.2.2.2.2.2.2.2.2.2.1 = 4 := hN
  have hO : xOK U G RX2 cX2_readRank 2 := hO
  have u0 : upd (M 3) 2 (nI p) = M 3 := by
    funext j
    rw [upd_at]
    split
    · rename_i e
      rw [e, h2]
    · rfl
  refine x_aload_n hO dX2_readRank_0 rfl rfl ?_
  refine x_callV1 hO (k_digit U M h1 h2 hn hp) dX2_readRank_1 lkX2_55 fX2_digit vX2_digit (by decide) rfl rfl rfl rfl rfl (by decide) (Nat.le_of_ble_eq_true rfl) ?_
  refine x_istore_n (n := 4) hO dX2_readRank_4 rfl rfl (by decide) hN ?_
  refine x_iload_n hO dX2_readRank_5 rfl rfl ?_
  refine x_if_ge (tgt := 11) hO dX2_readRank_6 (by decide) (fun c => ?_) (fun c => ?_)
  · have q := dgI_ge.mp c
    have hlt := isD_lt q
    rw [q] at hR
    simp only [if_true] at hR
    have e1 : dgI (sg (M 4) n p) = M 4 p - nI 48 := by unfold dgI; rw [q, if_pos rfl, sg_in hlt]
    rw [e1]
    refine x_aload_n hO dX2_readRank_11 rfl rfl ?_
    refine x_dup hO dX2_readRank_12 ?_
    refine x_getI (T := TX2) (j := 2) hO dX2_readRank_13 flX2_19 (by decide) rfl rfl (by decide) rfl rfl ?_
    rw [h2]
    refine x_iconst (v := nI 1) hO dX2_readRank_16 rfl ?_
    refine x_iadd hO dX2_readRank_17 ?_
    rw [nI_add]
    refine x_put (T := TX2) (j := 2) (ty := .int) hO dX2_readRank_18 flX2_19 (by decide) rfl rfl (by decide) rfl rfl rfl (by decide +kernel) rfl rfl ?_
    refine x_aload_n hO dX2_readRank_21 rfl rfl ?_
    have b31 : xset M 3 2 (nI (p + 1)) 3 1 = nI n := by rw [xset_at, if_pos rfl, if_neg (by decide), h1]
    have b32 : xset M 3 2 (nI (p + 1)) 3 2 = nI (p + 1) := by rw [xset_at, if_pos rfl, if_pos rfl]
    have b4 : xset M 3 2 (nI (p + 1)) 4 = M 4 := xset_ne _ _ _ (by decide)
    have b3 : xset M 3 2 (nI (p + 1)) 3 = upd (M 3) 2 (nI (p + 1)) := xset_same ..
    have bk : ∀ k, k ≠ 3 → xset M 3 2 (nI (p + 1)) k = M k := fun k hk => xset_ne _ _ _ hk
    generalize xset M 3 2 (nI (p + 1)) = M1 at *
    refine x_callV1 hO (k_digit U M1 b31 b32 hn (by omega)) dX2_readRank_22 lkX2_55 fX2_digit vX2_digit (by decide) rfl rfl rfl rfl rfl (by decide) (Nat.le_of_ble_eq_true rfl) ?_
    rw [b4]
    refine x_istore_n (n := 4) hO dX2_readRank_25 rfl rfl (by decide) hN ?_
    refine x_iload_n hO dX2_readRank_26 rfl rfl ?_
    have tail : ∀ (x : Int32) (o : Option xV) (M2 : xM) (p2 : Nat), M2 3 = upd (M 3) 2 (nI p2) → (∀ k, k ≠ 3 → M2 k = M k) → p2 = (if isD (sg (M 4) n (p + 1)) then p + 2 else p + 1) → x = (if isD (sg (M 4) n (p + 1)) then nI 10 * (M 4 p - nI 48) + (M 4 (p + 1) - nI 48) else M 4 p - nI 48) → XW U G 47 [some (.inr 3), some (.inl (nI r)), some (.inl x), o] [] M2 := by
      intro x o M2 p2 g1 g2 g3 g4
      refine x_iload_n hO dX2_readRank_47 rfl rfl ?_
      refine x_if_lt (tgt := 63) hO dX2_readRank_48 (by decide) (fun c1 => ?_) (fun c1 => ?_)
      · exact absurd c1 (nI_pos (by omega))
      · refine x_iload_n hO dX2_readRank_51 rfl rfl ?_
        refine x_iconst (v := nI 5) hO dX2_readRank_52 rfl ?_
        refine x_icmp_ge (tgt := 63) hO dX2_readRank_53 (by decide) (fun c2 => ?_) (fun c2 => ?_)
        · exact absurd c2 (nI_ge hr (by decide))
        · refine x_aload_n hO dX2_readRank_56 rfl rfl ?_
          refine x_getR (T := TX2) (j := 6) hO dX2_readRank_57 flX2_31 (by decide) rfl rfl (by decide) rfl rfl ?_
          refine x_iload_n hO dX2_readRank_60 rfl rfl ?_
          refine x_iload_n hO dX2_readRank_61 rfl rfl ?_
          refine x_iast hO (by decide) rfl (by decide) (rfl) (hr) dX2_readRank_62 ?_
          refine x_iconst (v := nI 1) hO dX2_readRank_63 rfl ?_
          refine x_iret hO hR dX2_readRank_64 rfl ?_
          refine ⟨rfl, ?_, fun _ => ?_, fun k n3 n7 => ?_⟩
          · rw [xset_ne _ _ _ (by decide), g1, g3]
          · rw [xset_same, g2 7 (by decide), g4]
          · rw [xset_ne _ _ _ n7, g2 k n3]
    refine x_if_lt (tgt := 47) hO dX2_readRank_27 (by decide) (fun c1 => ?_) (fun c1 => ?_)
    · have q2 := dgI_neg.mp c1
      rw [q2] at tail
      exact tail _ _ M1 (p + 1) b3 bk (by simp) (by simp)
    · have q2 := dgI_ge.mp (Int32.not_lt.mp c1)
      have hlt2 := isD_lt q2
      have e2 : dgI (sg (M 4) n (p + 1)) = M 4 (p + 1) - nI 48 := by unfold dgI; rw [q2, if_pos rfl, sg_in hlt2]
      rw [q2] at tail
      rw [e2]
      refine x_bipush (v := nI 10) hO dX2_readRank_30 rfl ?_
      refine x_iload_n hO dX2_readRank_32 rfl rfl ?_
      refine x_imul hO dX2_readRank_33 ?_
      refine x_iload_n hO dX2_readRank_34 rfl rfl ?_
      refine x_iadd hO dX2_readRank_35 ?_
      refine x_istore_n (n := 4) hO dX2_readRank_36 rfl rfl (by decide) hN ?_
      refine x_aload_n hO dX2_readRank_37 rfl rfl ?_
      refine x_dup hO dX2_readRank_38 ?_
      refine x_getI (T := TX2) (j := 2) hO dX2_readRank_39 flX2_19 (by decide) rfl rfl (by decide) rfl rfl ?_
      rw [b32]
      refine x_iconst (v := nI 1) hO dX2_readRank_42 rfl ?_
      refine x_iadd hO dX2_readRank_43 ?_
      rw [nI_add]
      refine x_put (T := TX2) (j := 2) (ty := .int) hO dX2_readRank_44 flX2_19 (by decide) rfl rfl (by decide) rfl rfl rfl (by decide +kernel) rfl rfl ?_
      exact tail _ _ _ (p + 2) (by rw [xset_same, b3, upd_up]) (fun k hk => by rw [xset_ne _ _ _ hk, bk k hk]) (by simp) (by simp)
  · have q := dgI_neg.mp (Int32.not_le.mp c)
    rw [q] at hR
    simp only [if_false, Bool.false_eq_true] at hR
    refine x_iconst (v := nI 0) hO dX2_readRank_9 rfl ?_
    refine x_iret hO hR dX2_readRank_10 rfl ?_
    exact ⟨rfl, u0.symm, fun z => absurd z (by simp), fun k _ _ => rfl⟩
theorem k_readAction (U : xP) (M : xM) {n p r : Nat} (h1 : M 3 1 = nI n) (h2 : M 3 2 = nI p) (hn : n ≤ 60) (hp : p ≤ n) (hr : r < 5) : xMetI U mX2_readAction [.inr 3, .inl (nI r)] M (fun v M' => v = bI (isD (sg (M 4) n p)) ∧ M' 3 = upd (M 3) 2 (nI (if isD (sg (M 4) n p) then p + 1 else p)) ∧ (isD (sg (M 4) n p) = true → M' 8 = upd (M 8) r (M 4 p - nI 48)) ∧ ∀ k, k ≠ 3 → k ≠ 8 → M' k = M k) := by
  refine xMetI.of (ty := .boolean) (L := [some (.inr 3), some (.inl (nI r)), none]) fX2_readAction rfl rfl (Nat.le_of_ble_eq_true rfl) (fun G hN hO hR => ?_)
  have hN : G.2.2.2.2.2.2.2.2.2.2.1 = 3 := hN
  have hO : xOK U G RX2 cX2_readAction 2 := hO
  have u0 : upd (M 3) 2 (nI p) = M 3 := by
    funext j
    rw [upd_at]
    split
    · rename_i e
      rw [e, h2]
    · rfl
  refine x_aload_n hO dX2_readAction_0 rfl rfl ?_
  refine x_callV1 hO (k_digit U M h1 h2 hn hp) dX2_readAction_1 lkX2_55 fX2_digit vX2_digit (by decide) rfl rfl rfl rfl rfl (by decide) (Nat.le_of_ble_eq_true rfl) ?_
  refine x_istore_n (n := 3) hO dX2_readAction_4 rfl rfl (by decide) hN ?_
  refine x_iload_n hO dX2_readAction_5 rfl rfl ?_
  refine x_if_ge (tgt := 11) hO dX2_readAction_6 (by decide) (fun c => ?_) (fun c => ?_)
  · have q := dgI_ge.mp c
    have hlt := isD_lt q
    rw [q] at hR
    simp only [if_true] at hR
    have e1 : dgI (sg (M 4) n p) = M 4 p - nI 48 := by unfold dgI; rw [q, if_pos rfl, sg_in hlt]
    rw [e1]
    refine x_aload_n hO dX2_readAction_11 rfl rfl ?_
    refine x_dup hO dX2_readAction_12 ?_
    refine x_getI (T := TX2) (j := 2) hO dX2_readAction_13 flX2_19 (by decide) rfl rfl (by decide) rfl rfl ?_
    rw [h2]
    refine x_iconst (v := nI 1) hO dX2_readAction_16 rfl ?_
    refine x_iadd hO dX2_readAction_17 ?_
    rw [nI_add]
    refine x_put (T := TX2) (j := 2) (ty := .int) hO dX2_readAction_18 flX2_19 (by decide) rfl rfl (by decide) rfl rfl rfl (by decide +kernel) rfl rfl ?_
    refine x_iload_n hO dX2_readAction_21 rfl rfl ?_
    refine x_if_lt (tgt := 37) hO dX2_readAction_22 (by decide) (fun c1 => ?_) (fun c1 => ?_)
    · exact absurd c1 (nI_pos (by omega))
    · refine x_iload_n hO dX2_readAction_25 rfl rfl ?_
      refine x_iconst (v := nI 5) hO dX2_readAction_26 rfl ?_
      refine x_icmp_ge (tgt := 37) hO dX2_readAction_27 (by decide) (fun c2 => ?_) (fun c2 => ?_)
      · exact absurd c2 (nI_ge hr (by decide))
      · refine x_aload_n hO dX2_readAction_30 rfl rfl ?_
        refine x_getR (T := TX2) (j := 7) hO dX2_readAction_31 flX2_34 (by decide) rfl rfl (by decide) rfl rfl ?_
        refine x_iload_n hO dX2_readAction_34 rfl rfl ?_
        refine x_iload_n hO dX2_readAction_35 rfl rfl ?_
        refine x_iast hO (by decide) rfl (by decide) (rfl) (hr) dX2_readAction_36 ?_
        refine x_iconst (v := nI 1) hO dX2_readAction_37 rfl ?_
        refine x_iret hO hR dX2_readAction_38 rfl ?_
        refine ⟨rfl, ?_, fun _ => ?_, fun k n3 n7 => ?_⟩
        · rw [xset_ne _ _ _ (by decide), xset_same]
        · rw [xset_same, xset_ne _ _ _ (by decide)]
        · rw [xset_ne _ _ _ n7, xset_ne _ _ _ n3]
  · have q := dgI_neg.mp (Int32.not_le.mp c)
    rw [q] at hR
    simp only [if_false, Bool.false_eq_true] at hR
    refine x_iconst (v := nI 0) hO dX2_readAction_9 rfl ?_
    refine x_iret hO hR dX2_readAction_10 rfl ?_
    exact ⟨rfl, u0.symm, fun z => absurd z (by simp), fun k _ _ => rfl⟩
end
section
/-! ===== RuleText.readRules ===== -/
/-- what has been read of the first i rules -/
def tDat (T : tT) (n i : Nat) (M : xM) : Prop := ∀ j, j < i → M 5 j = nI (eM T (tB T n j) 8) ∧ M 6 j = nI (eV T (tB T n j) 8) ∧ M 7 j = rRank T n (tB T n j) ∧ M 8 j = rAct T n (tB T n j)
theorem tDat_s {T : tT} {n i : Nat} {M M' : xM} (h : tDat T n i M) (h5 : M' 5 = upd (M 5) i (nI (eM T (tB T n i) 8))) (h6 : M' 6 = upd (M 6) i (nI (eV T (tB T n i) 8))) (h7 : M' 7 = upd (M 7) i (rRank T n (tB T n i))) (h8 : M' 8 = upd (M 8) i (rAct T n (tB T n i))) : tDat T n (i + 1) M' := by
  intro j hj
  rw [h5, h6, h7, h8]
  simp only [upd_at]
  by_cases e : j = i
  · subst e
    simp
  · simp only [if_neg e]
    exact h j (by omega)
theorem k_readRules (U : xP) (M : xM) {n : Nat} (h1 : M 3 1 = nI n) (hn : n ≤ 60) : xMetI U mX2_readRules [.inr 3] M (fun r M' => r = (if (tx (M 4) n 5 0 0).1 then -1 else nI (tx (M 4) n 5 0 0).2.1) ∧ ((tx (M 4) n 5 0 0).1 = true → M' 3 3 = nI (tx (M 4) n 5 0 0).2.2 ∧ tDat (M 4) n (tx (M 4) n 5 0 0).2.2 M') ∧ M' 3 1 = nI n ∧ ∀ k, k ≠ 3 → k ≠ 5 → k ≠ 6 → k ≠ 7 → k ≠ 8 → M' k = M k) := by
  refine xMetI.of (ty := .int) (L := [some (.inr 3), none]) fX2_readRules rfl rfl (Nat.le_of_ble_eq_true rfl) (fun G hN hO hR => ?_)
  have hN : G.2.2.2.2.2.2.2.2.2.2.1 = 2 := hN
  have hO : xOK U G RX2 cX2_readRules 3 := hO
  have hM4 : M 4 = M 4 := rfl
  generalize hT : M 4 = T at hR hM4
  generalize hg : tx T n 5 0 0 = g at hR
  refine x_aload_n hO dX2_readRules_0 rfl rfl ?_
  refine x_iconst (v := nI 0) hO dX2_readRules_1 rfl ?_
  refine x_put (T := TX2) (j := 2) (ty := .int) hO dX2_readRules_2 flX2_19 (by decide) rfl rfl (by decide) rfl rfl rfl (by decide +kernel) rfl rfl ?_
  refine x_aload_n hO dX2_readRules_5 rfl rfl ?_
  refine x_iconst (v := nI 0) hO dX2_readRules_6 rfl ?_
  refine x_put (T := TX2) (j := 3) (ty := .int) hO dX2_readRules_7 flX2_22 (by decide) rfl rfl (by decide) rfl rfl rfl (by decide +kernel) rfl rfl ?_
  refine x_iconst (v := nI 0) hO dX2_readRules_10 rfl ?_
  refine x_istore_n (n := 2) hO dX2_readRules_11 rfl rfl (by decide) hN ?_
  refine upd_ind (P := fun i d => ∀ (M1 : xM), M1 3 1 = nI n → M1 3 2 = nI (tB T n i) → M1 3 3 = nI i → tB T n i ≤ n → tDat T n i M1 → (∀ k, k ≠ 3 → k ≠ 5 → k ≠ 6 → k ≠ 7 → k ≠ 8 → M1 k = M k) → tx T n d (tB T n i) i = g → XW U G 12 [some (.inr 3), some (.inl (nI i))] [] M1) 5 ?_ ?_ 5 0 rfl _ ?_ ?_ ?_ (Nat.zero_le _) (fun j hj => absurd hj (Nat.not_lt_zero _)) (fun k h3 _ _ _ _ => ?_) hg
  · intro M1 a1 a2 a3 a4 a5 a6 hg2
    simp only [tx] at hg2
    refine x_iload_n hO dX2_readRules_12 rfl rfl ?_
    refine x_iconst (v := nI 5) hO dX2_readRules_13 rfl ?_
    refine x_icmp_ge (tgt := 107) hO dX2_readRules_14 (by decide) (fun c => ?_) (fun c => ?_)
    · refine x_aload_n hO dX2_readRules_107 rfl rfl ?_
      refine x_getI (T := TX2) (j := 2) hO dX2_readRules_108 flX2_19 (by decide) rfl rfl (by decide) rfl rfl ?_
      rw [a2]
      refine x_iret hO hR dX2_readRules_111 rfl ?_
      rw [← hg2]
      exact ⟨rfl, fun z => absurd z (by simp), a1, a6⟩
    · exact absurd (Int32.le_refl _) c
  · intro i d hd ih M1 a1 a2 a3 a4 a5 a6 hg2
    have hi : i < 5 := by omega
    have b4 : M1 4 = T := by rw [a6 4 (by decide) (by decide) (by decide) (by decide) (by decide), hT]
    simp only [tx] at hg2
    generalize hp : tB T n i = p at *
    refine x_iload_n hO dX2_readRules_12 rfl rfl ?_
    refine x_iconst (v := nI 5) hO dX2_readRules_13 rfl ?_
    refine x_icmp_ge (tgt := 107) hO dX2_readRules_14 (by decide) (fun c => ?_) (fun c => ?_)
    · exact absurd c (nI_ge hi (by decide))
    · have fail : ∀ M2 : xM, M2 3 1 = nI n → M2 3 2 = nI (rEnd T n p) → (∀ k, k ≠ 3 → k ≠ 5 → k ≠ 6 → k ≠ 7 → k ≠ 8 → M2 k = M k) → rOK T n p = false → XW U G 59 [some (.inr 3), some (.inl (nI i))] [] M2 := by
        intro M2 c1 c2 c3 c4
        rw [c4] at hg2
        refine x_aload_n hO dX2_readRules_59 rfl rfl ?_
        refine x_getI (T := TX2) (j := 2) hO dX2_readRules_60 flX2_19 (by decide) rfl rfl (by decide) rfl rfl ?_
        rw [c2]
        refine x_iret hO hR dX2_readRules_63 rfl ?_
        rw [← hg2]
        exact ⟨rfl, fun z => absurd z (by simp), c1, c3⟩
      refine x_aload_n hO dX2_readRules_17 rfl rfl ?_
      refine x_iload_n hO dX2_readRules_18 rfl rfl ?_
      refine x_callV hO (k_readEntry U M1 (n := n) (p := p) (r := i) a1 a2 hn a4 hi) dX2_readRules_19 lkX2_37 fX2_readEntry vX2_readEntry (by decide) rfl rfl rfl rfl rfl (by decide) (Nat.le_of_ble_eq_true rfl) (fun r Me h2 => ?_)
      obtain ⟨rfl, e3, e56, ek⟩ := h2
      rw [b4] at e3 e56 ⊢
      have f6 : ∀ k, k ≠ 3 → k ≠ 5 → k ≠ 6 → k ≠ 7 → k ≠ 8 → Me k = M k := fun k k3 k5 k6 k7 k8 => by rw [ek k k3 k5 k6, a6 k k3 k5 k6 k7 k8]
      have f1 : Me 3 1 = nI n := by rw [e3]; exact a1
      have f2 : Me 3 2 = nI (p + rE T n p) := by rw [e3]; rfl
      have f3 : Me 3 3 = nI i := by rw [e3]; exact a3
      refine x_if_eq (tgt := 59) hO dX2_readRules_22 (by decide) (fun c1 => ?_) (fun c1 => ?_)
      · have q : ¬ rE T n p = 8 := of_decide_eq_false (bI_0 c1)
        exact fail Me f1 (by rw [f2]; unfold rEnd; rw [if_neg q]) f6 (by unfold rOK; rw [decide_eq_false q]; rfl)
      · have q : rE T n p = 8 := of_decide_eq_true (bI_1 c1)
        have l8 := rE_lt (T := T) (n := n) (p := p) (by omega)
        rw [q] at f2 l8
        obtain ⟨e5, e6⟩ := e56 q
        have g4 : Me 4 = T := by rw [ek 4 (by decide) (by decide) (by decide), b4]
        refine x_aload_n hO dX2_readRules_25 rfl rfl ?_
        refine x_bipush (v := nI 44) hO dX2_readRules_26 rfl ?_
        refine x_callV hO (k_skip U Me (n := n) (p := p + 8) f1 f2 hn l8 (nI 44)) dX2_readRules_28 lkX2_41 fX2_skip vX2_skip (by decide) rfl rfl rfl rfl rfl (by decide) (Nat.le_of_ble_eq_true rfl) (fun r M2 h3 => ?_)
        obtain ⟨rfl, h3⟩ := h3
        rw [g4] at h3 ⊢
        refine x_if_eq (tgt := 59) hO dX2_readRules_31 (by decide) (fun c2 => ?_) (fun c2 => ?_)
        · have q2 : ¬ sg T n (p + 8) = nI 44 := by have := bI_0 c2; simpa using this
          rw [if_neg q2] at h3
          rw [h3]
          exact fail Me f1 (by rw [f2]; unfold rEnd; rw [if_pos q, if_neg q2]) f6 (by unfold rOK; simp [q2])
        · have q2 : sg T n (p + 8) = nI 44 := by have := bI_1 c2; simpa using this
          have l9 := sg_lt q2 (by decide)
          rw [if_pos q2] at h3
          have m3 : M2 3 = upd (Me 3) 2 (nI (p + 9)) := by rw [h3, xset_same]
          have mk : ∀ k, k ≠ 3 → M2 k = Me k := fun k hk => by rw [h3, xset_ne _ _ _ hk]
          clear h3
          have g1 : M2 3 1 = nI n := by rw [m3]; exact f1
          have g2 : M2 3 2 = nI (p + 9) := by rw [m3]; rfl
          have g3 : M2 3 3 = nI i := by rw [m3]; exact f3
          have g6 : ∀ k, k ≠ 3 → k ≠ 5 → k ≠ 6 → k ≠ 7 → k ≠ 8 → M2 k = M k := fun k k3 k5 k6 k7 k8 => by rw [mk k k3, f6 k k3 k5 k6 k7 k8]
          have g44 : M2 4 = T := by rw [mk 4 (by decide), g4]
          refine x_aload_n hO dX2_readRules_34 rfl rfl ?_
          refine x_iload_n hO dX2_readRules_35 rfl rfl ?_
          refine x_callV hO (k_readRank U M2 (n := n) (p := p + 9) (r := i) g1 g2 hn (by omega) hi) dX2_readRules_36 lkX2_45 fX2_readRank vX2_readRank (by decide) rfl rfl rfl rfl rfl (by decide) (Nat.le_of_ble_eq_true rfl) (fun r M3 h4 => ?_)
          obtain ⟨rfl, r3, r7, rk⟩ := h4
          rw [g44] at r3 r7 ⊢
          have s1 : M3 3 1 = nI n := by rw [r3]; exact g1
          have s3 : M3 3 3 = nI i := by rw [r3]; exact g3
          have s6 : ∀ k, k ≠ 3 → k ≠ 5 → k ≠ 6 → k ≠ 7 → k ≠ 8 → M3 k = M k := fun k k3 k5 k6 k7 k8 => by rw [rk k k3 k7, g6 k k3 k5 k6 k7 k8]
          have s44 : M3 4 = T := by rw [rk 4 (by decide) (by decide), g44]
          refine x_if_eq (tgt := 59) hO dX2_readRules_39 (by decide) (fun c3 => ?_) (fun c3 => ?_)
          · have q3 := bI_0 c3
            refine fail M3 s1 ?_ s6 (by unfold rOK; simp [q3])
            rw [r3, q3]
            unfold rEnd
            rw [if_pos q, if_pos q2, q3]
            rfl
          · have q3 := bI_1 c3
            have l10 := isD_lt q3
            have k12 := rK_12 T n p
            have ekk : (if isD (sg T n (p + 9 + 1)) then p + 9 + 2 else p + 9 + 1) = p + 9 + rK T n p := by
              unfold rK
              rw [show p + 9 + 1 = p + 10 from rfl]
              split <;> rfl
            have s2 : M3 3 2 = nI (p + 9 + rK T n p) := by rw [r3, q3, if_pos rfl, ekk]; rfl
            have lk : p + 9 + rK T n p ≤ n := by
              unfold rK
              split
              · rename_i z
                have := isD_lt z
                omega
              · omega
            have s7 := r7 q3
            refine x_aload_n hO dX2_readRules_42 rfl rfl ?_
            refine x_bipush (v := nI 44) hO dX2_readRules_43 rfl ?_
            refine x_callV hO (k_skip U M3 (n := n) (p := p + 9 + rK T n p) s1 s2 hn lk (nI 44)) dX2_readRules_45 lkX2_41 fX2_skip vX2_skip (by decide) rfl rfl rfl rfl rfl (by decide) (Nat.le_of_ble_eq_true rfl) (fun r M4 h5 => ?_)
            obtain ⟨rfl, h5⟩ := h5
            rw [s44] at h5 ⊢
            refine x_if_eq (tgt := 59) hO dX2_readRules_48 (by decide) (fun c4 => ?_) (fun c4 => ?_)
            · have q4 : ¬ sg T n (p + 9 + rK T n p) = nI 44 := by have := bI_0 c4; simpa using this
              rw [if_neg q4] at h5
              rw [h5]
              exact fail M3 s1 (by rw [s2]; unfold rEnd; rw [if_pos q, if_pos q2, if_pos q3, if_neg q4]) s6 (by unfold rOK; simp [q4])
            · have q4 : sg T n (p + 9 + rK T n p) = nI 44 := by have := bI_1 c4; simpa using this
              have l11 := sg_lt q4 (by decide)
              rw [if_pos q4] at h5
              have t3 : M4 3 = upd (M3 3) 2 (nI (p + 9 + rK T n p + 1)) := by rw [h5, xset_same]
              have tk : ∀ k, k ≠ 3 → M4 k = M3 k := fun k hk => by rw [h5, xset_ne _ _ _ hk]
              clear h5
              have t1 : M4 3 1 = nI n := by rw [t3]; exact s1
              have t2 : M4 3 2 = nI (p + 10 + rK T n p) := by rw [t3, show p + 10 + rK T n p = p + 9 + rK T n p + 1 by omega]; rfl
              have t33 : M4 3 3 = nI i := by rw [t3]; exact s3
              have t6 : ∀ k, k ≠ 3 → k ≠ 5 → k ≠ 6 → k ≠ 7 → k ≠ 8 → M4 k = M k := fun k k3 k5 k6 k7 k8 => by rw [tk k k3, s6 k k3 k5 k6 k7 k8]
              have t44 : M4 4 = T := by rw [tk 4 (by decide), s44]
              refine x_aload_n hO dX2_readRules_51 rfl rfl ?_
              refine x_iload_n hO dX2_readRules_52 rfl rfl ?_
              refine x_callV hO (k_readAction U M4 (n := n) (p := p + 10 + rK T n p) (r := i) t1 t2 hn (by omega) hi) dX2_readRules_53 lkX2_48 fX2_readAction vX2_readAction (by decide) rfl rfl rfl rfl rfl (by decide) (Nat.le_of_ble_eq_true rfl) (fun r M5 h6 => ?_)
              obtain ⟨rfl, u3, u8, uk⟩ := h6
              rw [t44] at u3 u8 ⊢
              have v1 : M5 3 1 = nI n := by rw [u3]; exact t1
              have v3 : M5 3 3 = nI i := by rw [u3]; exact t33
              have v6 : ∀ k, k ≠ 3 → k ≠ 5 → k ≠ 6 → k ≠ 7 → k ≠ 8 → M5 k = M k := fun k k3 k5 k6 k7 k8 => by rw [uk k k3 k8, t6 k k3 k5 k6 k7 k8]
              refine x_if_ne (tgt := 64) hO dX2_readRules_56 (by decide) (fun c5 => ?_) (fun c5 => ?_)
              · have q5 := bI_1 c5
                have ok : rOK T n p = true := by
                  unfold rOK
                  rw [decide_eq_true q, q3, q5, beq_iff_eq.mpr q2, beq_iff_eq.mpr q4]
                  rfl
                obtain ⟨en, el⟩ := rOK_end ok
                have v2 : M5 3 2 = nI (rEnd T n p) := by
                  rw [u3, q5, if_pos rfl, en, show p + 11 + rK T n p = p + 10 + rK T n p + 1 by omega]
                  rfl
                have v8 := u8 q5
                rw [ok] at hg2
                simp only [if_true] at hg2
                have dat : tDat T n (i + 1) M5 := by
                  refine tDat_s a5 ?_ ?_ ?_ ?_
                  · rw [hp, uk 5 (by decide) (by decide), tk 5 (by decide), rk 5 (by decide) (by decide), mk 5 (by decide), e5]
                  · rw [hp, uk 6 (by decide) (by decide), tk 6 (by decide), rk 6 (by decide) (by decide), mk 6 (by decide), e6]
                  · rw [hp, uk 7 (by decide) (by decide), tk 7 (by decide), s7, mk 7 (by decide), ek 7 (by decide) (by decide) (by decide)]
                    rfl
                  · rw [hp, v8, tk 8 (by decide), rk 8 (by decide) (by decide), mk 8 (by decide), ek 8 (by decide) (by decide) (by decide)]
                    rfl
                refine x_aload_n hO dX2_readRules_64 rfl rfl ?_
                refine x_dup hO dX2_readRules_65 ?_
                refine x_getI (T := TX2) (j := 3) hO dX2_readRules_66 flX2_22 (by decide) rfl rfl (by decide) rfl rfl ?_
                rw [v3]
                refine x_iconst (v := nI 1) hO dX2_readRules_69 rfl ?_
                refine x_iadd hO dX2_readRules_70 ?_
                rw [nI_add]
                refine x_put (T := TX2) (j := 3) (ty := .int) hO dX2_readRules_71 flX2_22 (by decide) rfl rfl (by decide) rfl rfl rfl (by decide +kernel) rfl rfl ?_
                have w3 : xset M5 3 3 (nI (i + 1)) 3 = upd (M5 3) 3 (nI (i + 1)) := xset_same ..
                have wk : ∀ k, k ≠ 3 → xset M5 3 3 (nI (i + 1)) k = M5 k := fun k hk => xset_ne _ _ _ hk
                generalize xset M5 3 3 (nI (i + 1)) = M6 at *
                have w1 : M6 3 1 = nI n := by rw [w3]; exact v1
                have w2 : M6 3 2 = nI (rEnd T n p) := by rw [w3]; exact v2
                have w33 : M6 3 3 = nI (i + 1) := by rw [w3]; rfl
                have w6 : ∀ k, k ≠ 3 → k ≠ 5 → k ≠ 6 → k ≠ 7 → k ≠ 8 → M6 k = M k := fun k k3 k5 k6 k7 k8 => by rw [wk k k3, v6 k k3 k5 k6 k7 k8]
                have w44 : M6 4 = T := by rw [w6 4 (by decide) (by decide) (by decide) (by decide) (by decide), hT]
                have wd : tDat T n (i + 1) M6 := fun j hj => by
                  rw [wk 5 (by decide), wk 6 (by decide), wk 7 (by decide), wk 8 (by decide)]
                  exact dat j hj
                refine x_aload_n hO dX2_readRules_74 rfl rfl ?_
                refine x_getI (T := TX2) (j := 2) hO dX2_readRules_75 flX2_19 (by decide) rfl rfl (by decide) rfl rfl ?_
                refine x_aload_n hO dX2_readRules_78 rfl rfl ?_
                refine x_getI (T := TX2) (j := 1) hO dX2_readRules_79 flX2_15 (by decide) rfl rfl (by decide) rfl rfl ?_
                rw [w1, w2]
                refine x_icmp_ne (tgt := 87) hO dX2_readRules_82 (by decide) (fun c6 => ?_) (fun c6 => ?_)
                · have q6 : ¬ rEnd T n p = n := fun z => c6 (by rw [z])
                  rw [if_neg q6] at hg2
                  refine x_aload_n hO dX2_readRules_87 rfl rfl ?_
                  refine x_bipush (v := nI 59) hO dX2_readRules_88 rfl ?_
                  refine x_callV hO (k_skip U M6 (n := n) (p := rEnd T n p) w1 w2 hn (by omega) (nI 59)) dX2_readRules_90 lkX2_41 fX2_skip vX2_skip (by decide) rfl rfl rfl rfl rfl (by decide) (Nat.le_of_ble_eq_true rfl) (fun r M7 h7 => ?_)
                  obtain ⟨rfl, h7⟩ := h7
                  rw [w44] at h7 ⊢
                  refine x_if_ne (tgt := 101) hO dX2_readRules_93 (by decide) (fun c7 => ?_) (fun c7 => ?_)
                  · have q7 : sg T n (rEnd T n p) = nI 59 := by have := bI_1 c7; simpa using this
                    have l12 := sg_lt q7 (by decide)
                    rw [if_pos q7] at h7 hg2
                    subst h7
                    refine x_iinc hO dX2_readRules_101 rfl (by first | exact xinc_n _ | rfl) rfl hN ?_
                    refine x_goto (tgt := 12) hO dX2_readRules_104 (by decide) ?_
                    refine ih _ ?_ ?_ ?_ ?_ ?_ ?_ ?_
                    · rw [xset_same]; exact w1
                    · rw [xset_same]
                      show nI (rEnd T n p + 1) = nI (rEnd T n (tB T n i) + 1)
                      rw [hp]
                    · rw [xset_same]; exact w33
                    · show rEnd T n (tB T n i) + 1 ≤ n
                      rw [hp]
                      omega
                    · intro j hj
                      rw [xset_ne _ _ _ (by decide), xset_ne _ _ _ (by decide), xset_ne _ _ _ (by decide), xset_ne _ _ _ (by decide)]
                      exact wd j hj
                    · intro k k3 k5 k6 k7 k8
                      rw [xset_ne _ _ _ k3, w6 k k3 k5 k6 k7 k8]
                    · show tx T n d (rEnd T n (tB T n i) + 1) (i + 1) = g
                      rw [hp]
                      exact hg2
                  · have q7 : ¬ sg T n (rEnd T n p) = nI 59 := by have := bI_0 c7; simpa using this
                    rw [if_neg q7] at h7 hg2
                    subst h7
                    refine x_aload_n hO dX2_readRules_96 rfl rfl ?_
                    refine x_getI (T := TX2) (j := 2) hO dX2_readRules_97 flX2_19 (by decide) rfl rfl (by decide) rfl rfl ?_
                    rw [w2]
                    refine x_iret hO hR dX2_readRules_100 rfl ?_
                    rw [← hg2]
                    exact ⟨rfl, fun z => absurd z (by simp), w1, w6⟩
                · have q6 : rEnd T n p = n := (nI_eq (by omega) (by omega)).mp c6
                  rw [if_pos q6] at hg2
                  refine x_iconst (v := (-1 : Int32)) hO dX2_readRules_85 rfl ?_
                  refine x_iret hO hR dX2_readRules_86 rfl ?_
                  rw [← hg2]
                  exact ⟨rfl, fun _ => ⟨w33, wd⟩, w1, w6⟩
              · have q5 := bI_0 c5
                refine fail M5 v1 ?_ v6 (by unfold rOK; simp [q5])
                rw [u3, q5]
                unfold rEnd
                rw [if_pos q, if_pos q2, if_pos q3, if_pos q4, q5]
                rfl
  · exact h1
  · rfl
  · rfl
  · rw [xset_ne _ _ _ h3, xset_ne _ _ _ h3]
end
section
/-! ===== the document's state, and what each call does to it ===== -/
/-- a memory: its rows, and its numbers (placing, added, moved, searches, powers) -/
abbrev aSt : Type := aR × (Nat → Int32)
/-- the object: its memory, the snapshot, the history (the latest first), the text (its length, its characters, then -1) -/
abbrev aO : Type := aSt × Option aSt × List aSt × (Nat × tT)
def oRec (s : aO) : aO := (s.1, s.2.1, (s.1 :: s.2.2.1).take 4, s.2.2.2)
def oCur (s : aO) (x : aSt) : aO := (x, s.2)
def oTxt (s : aO) (t : Nat × tT) : aO := (s.1, s.2.1, s.2.2.1, t)
def addS (s : aSt) (v m k a : Int32) : aSt := (aAdd s.1 (s.2 0) k (rowOf (s.2 1) 0 m v k a), upd (upd s.2 1 (s.2 1 + nI 1)) 2 (s.2 2 + nI (oM s.1 k)))
def argB (v m k a : Int32) : Bool := ixB v 256 && (ixB m 256 && (ixB k 100 && ixB a 10))
def o_addRule (s : aO) (v m k a : Int32) : Int32 × aO := if argB v m k a then (if aCnt s.1.1 = 32 then (-3, s) else (s.1.2 1, oCur (oRec s) (addS s.1 v m k a))) else (-2, s)
def blkS (s : aSt) (f h : Nat) (k a : Int32) : aSt := ((aBlk (s.2 0) k a (s.2 1) h 14 0 f (s.1, s.2 2)).1, upd (upd s.2 1 (s.2 1 + nI 1)) 2 (aBlk (s.2 0) k a (s.2 1) h 14 0 f (s.1, s.2 2)).2)
def o_addRange (s : aO) (x y k a : Int32) : Int32 × aO := if rgB x y && (ixB k 100 && ixB a 10) then (if 32 - aCnt s.1.1 < bCn y.toNatClampNeg x.toNatClampNeg 14 then (-3, s) else (s.1.2 1, oCur (oRec s) (blkS s.1 x.toNatClampNeg y.toNatClampNeg k a))) else (-2, s)
def o_remove (s : aO) (x : Int32) : Int32 × aO := if nC (pRule s.1.1 x) 32 = 0 then (-1, s) else (nI (nC (pRule s.1.1 x) 32), oCur (oRec s) (aDrop s.1.1 x, s.1.2))
def o_setPlacing (s : aO) (x : Int32) : Int32 × aO := if ixB x 3 then (if x = s.1.2 0 then (-4, s) else (s.1.2 0, oCur (oRec s) (s.1.1, upd s.1.2 0 x))) else (-2, s)
/-- the rows with the entries in the first slots of n shares -/
def aSp (A : aR) (n : Nat) : aR := fun s => if nF (fun p => aTg n p == s) 0 (aCnt A) < aCnt A then A (kth A (nF (fun p => aTg n p == s) 0 (aCnt A))) else eR
def o_re (s : aO) (n : Nat) : Int32 × aO := if nC (pOut s.1.1 n) 32 = 0 then (-4, s) else (nI (nC (pOut s.1.1 n) 32), oCur (oRec s) (aSp s.1.1 n, upd s.1.2 2 (s.1.2 2 + nI (nC (pOut s.1.1 n) 32))))
def o_search (s : aO) (x : Int32) : Int32 × aO := if ixB x 256 then (if aFd s.1.1 x < 32 then (s.1.1 (aFd s.1.1 x) 5, oCur (oRec s) (aHt s.1.1 (s.1.1 (aFd s.1.1 x) 0), upd (upd s.1.2 3 (s.1.2 3 + nI 1)) 4 (s.1.2 4 + nI (aPw s.1.1 x 4)))) else (-4, s)) else (-2, s)
def o_type (s : aO) (x : Int32) : Int32 × aO := if s.2.2.2.1 < 60 then (nI (s.2.2.2.1 + 1), oTxt s (s.2.2.2.1 + 1, upd s.2.2.2.2 s.2.2.2.1 x)) else (-3, s)
def o_clearText (s : aO) : Int32 × aO := (nI s.2.2.2.1, oTxt s (0, fun _ => -1))
def txtS (s : aSt) (T : tT) (n : Nat) : Nat → aSt
  | 0 => s
  | i + 1 => addS (txtS s T n i) (nI (eV T (tB T n i) 8)) (nI (eM T (tB T n i) 8)) (rRank T n (tB T n i)) (rAct T n (tB T n i))
def o_addText (s : aO) : Int32 × aO :=
  if (tx s.2.2.2.2 s.2.2.2.1 5 0 0).1 then (if 32 - aCnt s.1.1 < (tx s.2.2.2.2 s.2.2.2.1 5 0 0).2.2 then (-3, s) else (nI (tx s.2.2.2.2 s.2.2.2.1 5 0 0).2.2, oCur (oRec s) (txtS s.1 s.2.2.2.2 s.2.2.2.1 (tx s.2.2.2.2 s.2.2.2.1 5 0 0).2.2))) else (-100 - nI (tx s.2.2.2.2 s.2.2.2.1 5 0 0).2.1, s)
def o_undo (s : aO) : Int32 × aO := match s.2.2.1 with
  | [] => (-4, s)
  | x :: h => (nI h.length, (x, s.2.1, h, s.2.2.2))
def o_keep (s : aO) : Int32 × aO := (nI (aCnt s.1.1), (s.1, some s.1, s.2.2.1, s.2.2.2))
def o_restore (s : aO) : Int32 × aO := match s.2.1 with
  | none => (-4, s)
  | some x => (nI (aCnt x.1), oCur (oRec s) x)
def q_in (A : aR) (w : Nat) (x : Int32) : Int32 := if ixB x 32 then (if aoc A x.toNatClampNeg then A x.toNatClampNeg w else -4) else -1
def q_sort (A : aR) (x : Int32) : Int32 := if q_in A 2 x < 0 then q_in A 2 x else aSo (q_in A 2 x)
def q_slotOf (A : aR) (x y : Int32) : Int32 := aN (nF (pPart A x y) 0 32)
def q_parts (A : aR) (x : Int32) : Int32 := if nC (pRule A x) 32 = 0 then -1 else nI (nC (pRule A x) 32)
def q_of (A : aR) (w : Nat) (x : Int32) : Int32 := if nF (pPart A x 0) 0 32 < 32 then A (nF (pPart A x 0) 0 32) w else -1
def q_find (A : aR) (x : Int32) : Int32 := if ixB x 256 then (if aFd A x < 32 then A (aFd A x) 0 else -4) else -2
def q_power (A : aR) (x : Int32) : Int32 := if ixB x 256 then nI (aPw A x 4) else -2
def q_fm (A : aR) (x : Int32) : Int32 := if ixB x 4 then aFM A x.toNatClampNeg else -1
def q_fv (A : aR) (x : Int32) : Int32 := if ixB x 4 then aFV A x.toNatClampNeg else -1
def q_hid (A : aR) (x : Int32) : Int32 := if ixB x 32 then (if aoc A x.toNatClampNeg then (if aHid A x.toNatClampNeg = -1 then -4 else aHid A x.toNatClampNeg) else -4) else -1
def q_keys (A : aR) (x : Int32) : Int32 := if ixB x 32 then nI (aKs A x 256) else -1
def q_wm (A : aR) (x : Int32) : Int32 := if ixB x 100 then (if aCnt A = 32 then -3 else nI (oM A x)) else -2
def q_ef (x y : Int32) : Int32 := if rgB x y then nI (bCn y.toNatClampNeg x.toNatClampNeg 14) else -2
/-- the entries that no key finds -/
def aNever (A : aR) : Nat := nC (fun s => aoc A s && (aKs A (nI s) 256 == 0)) 32
def q_total (s : aO) (x : Int32) : Int32 :=
  if x = nI 0 then nI (aCnt s.1.1) else if x = nI 1 then nI (nC (pP0 s.1.1) 32) else if x = nI 2 then s.1.2 1 else if x = nI 3 then s.1.2 0 else if x = nI 4 then s.1.2 2 else if x = nI 5 then s.1.2 3 else if x = nI 6 then s.1.2 4 else if x = nI 7 then nI (aNever s.1.1) else if x = nI 8 then nI (aKs s.1.1 (-1) 256) else if x = nI 9 then nI s.2.2.1.length else if x = nI 10 then nI s.2.2.2.1 else -2
theorem aTg_inj {n p q : Nat} (hn : n ≤ 32) (h : aTg n p = aTg n q) : p = q := by
  rcases Nat.lt_trichotomy p q with z | z | z
  · have := aTg_lt2 hn z
    omega
  · exact z
  · have := aTg_lt2 hn z
    omega
theorem aSp_is (A : aR) {n : Nat} (hn : n ≤ 32) : isSp A n (aSp A n) := by
  constructor
  · intro p hp
    have e : nF (fun q => aTg n q == aTg n p) 0 (aCnt A) = p := nF_eq (Nat.zero_le _) (by omega) (fun j _ hj => by
      have : ¬ aTg n j = aTg n p := fun z => by have := aTg_inj hn z; omega
      simpa using this) (fun _ => by simp)
    unfold aSp
    rw [e, if_pos hp]
  · intro s hs
    unfold aSp
    rw [if_neg]
    intro h
    have := nF_yes (P := fun p => aTg n p == s) (aCnt A) 0 (by omega)
    exact hs _ h (by simpa using this)
theorem isSp.eq {A B : aR} {n : Nat} (hn : n ≤ 32) (h : isSp A n B) : B = aSp A n := h.uni (aSp_is A hn)
/-! ===== the object's cells, as the document's state ===== -/
def sc (g : Nat → Int32) : Nat → Int32 := fun j => if j < 5 then g (7 + j) else 0
theorem sc_upd (g : Nat → Int32) {j : Nat} (hj : j < 5) (x : Int32) : sc (upd g (7 + j) x) = upd (sc g) j x := by
  funext i
  unfold sc
  simp only [upd_at]
  by_cases e : i = j
  · subst e
    simp [hj]
  · have : ¬ 7 + i = 7 + j := by omega
    simp [e, this]
def stC (M : xM) (b : Nat) : aSt := (cA M b, sc (M b))
def RC (M : xM) (s : aO) : Prop := stC M 16 = s.1 ∧ ((M 0 4 = 0 ∧ s.2.1 = none) ∨ (M 0 4 = 1 ∧ s.2.1 = some (stC M 24))) ∧ (∃ o c : Nat, o < 4 ∧ c ≤ 4 ∧ M 1 1 = nI o ∧ M 1 2 = nI c ∧ s.2.2.1 = (List.range c).map (fun k => stC M (hb o (c - 1 - k)))) ∧ ∃ n : Nat, n ≤ 60 ∧ M 3 1 = nI n ∧ s.2.2.2 = (n, sg (M 4) n)
/-- the reference's cells stay -/
def frC (M M' : xM) : Prop := ∀ k, 9 ≤ k → k ≤ 15 → M' k = M k
theorem frC.tr {M M1 M2 : xM} (h1 : frC M M1) (h2 : frC M1 M2) : frC M M2 := fun k a b => by rw [h2 k a b, h1 k a b]
theorem stC_eq {M M' : xM} {b b' : Nat} (h1 : cA M' b' = cA M b) (h2 : ∀ j, 7 ≤ j → j < 12 → M' b' j = M b j) : stC M' b' = stC M b := by
  unfold stC
  rw [h1]
  congr 1
  funext j
  unfold sc
  split
  · exact h2 _ (by omega) (by omega)
  · rfl
theorem stC_fr {M M' : xM} {b : Nat} (h : ∀ k, b ≤ k → k < b + 8 → M' k = M k) : stC M' b = stC M b := stC_eq (cA_ext (fun s hs => cA_row hs hs (fun w hw => by rw [h _ (by omega) (by omega)])) (fun s hs => cA_ge hs)) (fun j _ _ => by rw [h b (by omega) (by omega)])
theorem RC.mem {M M' : xM} {s : aO} {A' : aR} {g' : Nat → Int32} (h : RC M s) (hm : mSt M M' A' g') : RC M' (oCur s (A', sc g')) ∧ frC M M' := by
  obtain ⟨h1, h2, ⟨o, c, h3, h4, h5, h6, h7⟩, n, h8, h9, h10⟩ := h
  have e : ∀ k, (k < 16 ∨ 24 ≤ k) → M' k = M k := hm.2.2
  have eb : ∀ i, stC M' (hb o i) = stC M (hb o i) := fun i => stC_fr (fun k a _ => e k (by unfold hb at a; omega))
  refine ⟨⟨?_, ?_, ⟨o, c, h3, h4, by rw [e 1 (by omega)]; exact h5, by rw [e 1 (by omega)]; exact h6, ?_⟩, n, h8, by rw [e 3 (by omega)]; exact h9, by rw [e 4 (by omega)]; exact h10⟩, fun k _ _ => e k (by omega)⟩
  · unfold stC oCur
    rw [hm.1, hm.2.1]
  · rw [e 0 (by omega), stC_fr (M := M) (M' := M') (b := 24) (fun k _ _ => e k (by omega))]
    exact h2
  · simp only [eb]
    exact h7
theorem hb_ap {o i j : Nat} (h : (o + i) % 4 ≠ (o + j) % 4) : hb o i + 8 ≤ hb o j ∨ hb o j + 8 ≤ hb o i := by
  unfold hb
  omega
theorem range_map_succ {α : Type} (f : Nat → α) (n : Nat) : (List.range (n + 1)).map f = f 0 :: (List.range n).map (fun k => f (k + 1)) := by
  rw [List.range_succ_eq_map]
  simp
theorem RC.rec {M M' : xM} {s : aO} {o c o1 c1 : Nat} (h : RC M s) (ho : M 1 1 = nI o) (hc : M 1 2 = nI c) (ho4 : o < 4) (hc4 : c ≤ 4) (p1 : o1 < 4) (p2 : c1 < 4) (p3 : M' 1 1 = nI o1) (p4 : M' 1 2 = nI (c1 + 1)) (p5 : c < 4 → o1 = o ∧ c1 = c) (p6 : c = 4 → o1 = (o + 1) % 4 ∧ c1 = 3) (p7 : cA M' (hb o1 c1) = cA M 16) (p8 : ∀ j, 7 ≤ j → j < 12 → M' (hb o1 c1) j = M 16 j) (p9 : ∀ k, k ≠ 1 → (k < hb o1 c1 ∨ hb o1 c1 + 8 ≤ k) → M' k = M k) : RC M' (oRec s) ∧ frC M M' ∧ M' 16 = M 16 ∧ (∀ k, 17 ≤ k → k < 24 → M' k = M k) ∧ (∀ k, 3 ≤ k → k ≤ 8 → M' k = M k) := by
  have hb32 : 32 ≤ hb o1 c1 := by unfold hb; omega
  obtain ⟨h1, h2, ⟨o', c', h3, h4, h5, h6, h7⟩, n, h8, h9, h10⟩ := h
  have eo : o' = o := (nI_eq (by omega) (by omega)).mp (h5.symm.trans ho)
  have ec : c' = c := (nI_eq (by omega) (by omega)).mp (h6.symm.trans hc)
  subst eo
  subst ec
  have e16 : stC M' 16 = stC M 16 := stC_fr (fun k a b => p9 k (by omega) (by omega))
  have enew : stC M' (hb o1 c1) = stC M 16 := stC_eq p7 p8
  refine ⟨⟨by rw [e16]; exact h1, ?_, ⟨o1, c1 + 1, p1, by omega, p3, p4, ?_⟩, n, h8, ?_, ?_⟩, fun k a b => p9 k (by omega) (by omega), p9 16 (by omega) (by omega), fun k a b => p9 k (by omega) (by omega), fun k a b => p9 k (by omega) (by omega)⟩
  · show (M' 0 4 = 0 ∧ s.2.1 = none) ∨ (M' 0 4 = 1 ∧ s.2.1 = some (stC M' 24))
    rw [p9 0 (by omega) (by omega), stC_fr (M := M) (M' := M') (b := 24) (fun k a b => p9 k (by omega) (by omega))]
    exact h2
  · show (s.1 :: s.2.2.1).take 4 = _
    rw [range_map_succ, h7, ← h1]
    rw [show c1 + 1 - 1 - 0 = c1 by omega, enew]
    rw [List.take_succ_cons]
    congr 1
    rcases Nat.lt_or_ge c' 4 with q | q
    · obtain ⟨rfl, rfl⟩ := p5 q
      rw [List.take_of_length_le (by simp; omega)]
      refine List.map_congr_left (fun k hk => ?_)
      have hk := List.mem_range.mp hk
      rw [show c1 + 1 - 1 - (k + 1) = c1 - 1 - k by omega]
      have hap := hb_ap (o := o1) (i := c1 - 1 - k) (j := c1) (by omega)
      exact (stC_fr (fun z a b => p9 z (by unfold hb at a; omega) (by omega))).symm
    · obtain rfl : c' = 4 := by omega
      obtain ⟨rfl, rfl⟩ := p6 rfl
      rw [← List.map_take, List.take_range]
      rw [show min 3 4 = 3 from rfl]
      refine List.map_congr_left (fun k hk => ?_)
      have hk := List.mem_range.mp hk
      have ea : hb ((o' + 1) % 4) (3 + 1 - 1 - (k + 1)) = hb o' (4 - 1 - k) := by unfold hb; omega
      rw [ea]
      have hap : hb o' (4 - 1 - k) + 8 ≤ hb ((o' + 1) % 4) 3 ∨ hb ((o' + 1) % 4) 3 + 8 ≤ hb o' (4 - 1 - k) := by
        unfold hb
        omega
      exact (stC_fr (fun z a b => p9 z (by unfold hb at a; omega) (by omega))).symm
  · rw [p9 3 (by omega) (by omega)]
    exact h9
  · rw [p9 4 (by omega) (by omega)]
    exact h10
theorem xMetV.imp {U : xP} {mi : xMI} {av : List xV} {M : xM} {post post' : xM → Prop} (h : xMetV U mi av M post) (hi : ∀ M', post M' → post' M') : xMetV U mi av M post' := by
  intro p e ha hc hk s m args below hf happ hP hK
  obtain ⟨n, o, h1, h2, h3, ⟨⟨⟨M', q1, q2, q3⟩, q4⟩, q5⟩⟩ := h p e ha hc hk s m args below hf happ hP hK
  exact ⟨n, o, h1, h2, h3, ⟨⟨⟨M', q1, hi M' q2, q3⟩, q4⟩, q5⟩⟩
theorem xMetI.imp {U : xP} {mi : xMI} {av : List xV} {M : xM} {post post' : Int32 → xM → Prop} (h : xMetI U mi av M post) (hi : ∀ r M', post r M' → post' r M') : xMetI U mi av M post' := by
  intro p e ha hc hk s m args below hf happ hP hK
  obtain ⟨n, o, h1, h2, h3, ⟨⟨⟨r, M', q1, q2, q3⟩, q4⟩, q5⟩⟩ := h p e ha hc hk s m args below hf happ hP hK
  exact ⟨n, o, h1, h2, h3, ⟨⟨⟨r, M', q1, hi r M' q2, q3⟩, q4⟩, q5⟩⟩
/-- record, as the object's cells show it -/
theorem k_rec (U : xP) (M : xM) {s : aO} (h : RC M s) : xMetV U mX0_record [.inr 1, .inr 16] M (fun M' => RC M' (oRec s) ∧ frC M M' ∧ M' 16 = M 16 ∧ (∀ k, 17 ≤ k → k < 24 → M' k = M k) ∧ (∀ k, 3 ≤ k → k ≤ 8 → M' k = M k)) := by
  obtain ⟨o, c, h3, h4, h5, h6, -⟩ := h.2.2.1
  refine (k_record U M h5 h6 h3 h4).imp (fun M' hp => ?_)
  obtain ⟨o1, c1, p1, p2, p3, p4, p5, p6, p7, p8, p9⟩ := hp
  exact h.rec h5 h6 h3 h4 p1 p2 p3 p4 p5 p6 p7 p8 p9
theorem RC.rows {M : xM} {s : aO} (h : RC M s) : cA M 16 = s.1.1 := congrArg Prod.fst h.1
theorem RC.nums {M : xM} {s : aO} (h : RC M s) : sc (M 16) = s.1.2 := congrArg Prod.snd h.1
theorem RC.num {M : xM} {s : aO} (h : RC M s) {j : Nat} (hj : j < 5) : M 16 (7 + j) = s.1.2 j := by
  rw [← h.nums]
  simp [sc, hj]
theorem sc_7 (g : Nat → Int32) (x : Int32) : sc (upd g 7 x) = upd (sc g) 0 x := sc_upd g (j := 0) (by decide) x
theorem sc_8 (g : Nat → Int32) (x : Int32) : sc (upd g 8 x) = upd (sc g) 1 x := sc_upd g (j := 1) (by decide) x
theorem sc_9 (g : Nat → Int32) (x : Int32) : sc (upd g 9 x) = upd (sc g) 2 x := sc_upd g (j := 2) (by decide) x
theorem sc_10 (g : Nat → Int32) (x : Int32) : sc (upd g 10 x) = upd (sc g) 3 x := sc_upd g (j := 3) (by decide) x
theorem sc_11 (g : Nat → Int32) (x : Int32) : sc (upd g 11 x) = upd (sc g) 4 x := sc_upd g (j := 4) (by decide) x
end
section
/-! ===== TernaryMatcher's methods, against the document's state ===== -/
theorem ixB_c {x : Int32} {n : Nat} (hn : n < 2 ^ 31) (h : ixB x n = true) : x = nI x.toNatClampNeg ∧ x.toNatClampNeg < n := by
  obtain ⟨j, hj, rfl⟩ := ixB_e hn h
  rw [nI_clamp (by omega)]
  exact ⟨rfl, hj⟩
theorem rgB_c {x y : Int32} (h : rgB x y = true) : x = nI x.toNatClampNeg ∧ y = nI y.toNatClampNeg ∧ x.toNatClampNeg < 256 ∧ y.toNatClampNeg < 256 ∧ x.toNatClampNeg ≤ y.toNatClampNeg := by
  simp only [rgB, Bool.and_eq_true, decide_eq_true_eq] at h
  obtain ⟨⟨h1, h2⟩, h3⟩ := h
  obtain ⟨a1, a2⟩ := ixB_c (by decide) h1
  obtain ⟨b1, b2⟩ := ixB_c (by decide) h2
  refine ⟨a1, b1, a2, b2, ?_⟩
  rw [a1, b1] at h3
  exact (nI_leI (by omega) (by omega)).mp h3
/-- what a call answers and leaves -/
def poC (M : xM) (R : Int32 × aO) : Int32 → xM → Prop := fun r M' => r = R.1 ∧ RC M' R.2 ∧ frC M M'
theorem frC.rf (M : xM) : frC M M := fun _ _ _ => rfl
theorem kc_addRule (U : xP) (M : xM) {s : aO} (h : RC M s) (hr : s.1.2 1 ≠ -1) (v m k a : Int32) : xMetI U mX3_addRule [.inr 0, .inl v, .inl m, .inl k, .inl a] M (poC M (o_addRule s v m k a)) := by
  refine xMetI.of (ty := .int) (L := [some (.inr 0), some (.inl v), some (.inl m), some (.inl k), some (.inl a)]) fX3_addRule rfl rfl (Nat.le_of_ble_eq_true rfl) (fun G hN hO hR => ?_)
  have hN : G.2.2.2.2.2.2.2.2.2.2.1 = 5 := hN
  have hO : xOK U G RX3 cX3_addRule 5 := hO
  unfold o_addRule argB at hR
  have bad : (ixB v 256 && (ixB m 256 && (ixB k 100 && ixB a 10))) = false → XW U G 29 [some (.inr 0), some (.inl v), some (.inl m), some (.inl k), some (.inl a)] [] M := by
    intro hb
    rw [hb] at hR
    refine x_bipush (v := (-2 : Int32)) hO dX3_addRule_29 rfl ?_
    refine x_iret hO hR dX3_addRule_31 rfl ?_
    exact ⟨rfl, h, frC.rf M⟩
  refine x_iload_n hO dX3_addRule_0 rfl rfl ?_
  refine x_callS1 hO (k_isKey U M v) dX3_addRule_1 lkX3_37 fX3_isKey sX3_isKey rfl rfl (by decide) (Nat.le_of_ble_eq_true rfl) ?_
  refine x_if_eq (tgt := 29) hO dX3_addRule_4 (by decide) (fun c1 => ?_) (fun c1 => ?_)
  · exact bad (by simp [bI_0 c1])
  · refine x_iload_n hO dX3_addRule_7 rfl rfl ?_
    refine x_callS1 hO (k_isKey U M m) dX3_addRule_8 lkX3_37 fX3_isKey sX3_isKey rfl rfl (by decide) (Nat.le_of_ble_eq_true rfl) ?_
    refine x_if_eq (tgt := 29) hO dX3_addRule_11 (by decide) (fun c2 => ?_) (fun c2 => ?_)
    · exact bad (by simp [bI_0 c2])
    · refine x_iload_n hO dX3_addRule_14 rfl rfl ?_
      refine x_callS1 hO (k_isRank U M k) dX3_addRule_15 lkX3_41 fX3_isRank sX3_isRank rfl rfl (by decide) (Nat.le_of_ble_eq_true rfl) ?_
      refine x_if_eq (tgt := 29) hO dX3_addRule_18 (by decide) (fun c3 => ?_) (fun c3 => ?_)
      · exact bad (by simp [bI_0 c3])
      · refine x_iload hO dX3_addRule_21 rfl ?_
        refine x_callS1 hO (k_isAction U M a) dX3_addRule_23 lkX3_44 fX3_isAction sX3_isAction rfl rfl (by decide) (Nat.le_of_ble_eq_true rfl) ?_
        refine x_if_ne (tgt := 32) hO dX3_addRule_26 (by decide) (fun c4 => ?_) (fun c4 => ?_)
        · rw [bI_1 c1, bI_1 c2, bI_1 c3, bI_1 c4] at hR
          simp only [Bool.and_self, if_true] at hR
          refine x_aload_n hO dX3_addRule_32 rfl rfl ?_
          refine x_getR (T := TX3) (j := 0) hO dX3_addRule_33 flX3_10 (by decide) rfl rfl (by decide) rfl rfl ?_
          refine x_callV1 hO (k_freeSlots U M) dX3_addRule_36 lkX3_47 fX1_freeSlots vX1_freeSlots (by decide) rfl rfl rfl rfl rfl (by decide) (Nat.le_of_ble_eq_true rfl) ?_
          have hle := aCnt_le s.1.1
          rw [h.rows]
          refine x_if_ne (tgt := 45) hO dX3_addRule_39 (by decide) (fun c5 => ?_) (fun c5 => ?_)
          · have q : ¬ aCnt s.1.1 = 32 := fun z => c5 (by rw [z]; rfl)
            rw [if_neg q] at hR
            refine x_aload_n hO dX3_addRule_45 rfl rfl ?_
            refine x_getR (T := TX3) (j := 2) hO dX3_addRule_46 flX3_22 (by decide) rfl rfl (by decide) rfl rfl ?_
            refine x_aload_n hO dX3_addRule_49 rfl rfl ?_
            refine x_getR (T := TX3) (j := 0) hO dX3_addRule_50 flX3_10 (by decide) rfl rfl (by decide) rfl rfl ?_
            refine x_callVv hO (k_rec U M h) dX3_addRule_53 lkX3_51 fX0_record vX0_record (by decide) rfl rfl rfl rfl rfl (by decide) (Nat.le_of_ble_eq_true rfl) (fun M1 h1 => ?_)
            obtain ⟨r1, f1, e16, -, -⟩ := h1
            refine x_aload_n hO dX3_addRule_56 rfl rfl ?_
            refine x_getR (T := TX3) (j := 0) hO dX3_addRule_57 flX3_10 (by decide) rfl rfl (by decide) rfl rfl ?_
            refine x_iload_n hO dX3_addRule_60 rfl rfl ?_
            refine x_iload_n hO dX3_addRule_61 rfl rfl ?_
            refine x_iload_n hO dX3_addRule_62 rfl rfl ?_
            refine x_iload hO dX3_addRule_63 rfl ?_
            have hlt : aCnt (cA M1 16) < 32 := by rw [r1.rows]; show aCnt s.1.1 < 32; omega
            refine x_callV hO (k_addSingle U M1 v m k a hlt (by rw [show M1 16 8 = s.1.2 1 from r1.num (j := 1) (by decide)]; exact hr)) dX3_addRule_65 lkX3_55 fX1_addSingle vX1_addSingle (by decide) rfl rfl rfl rfl rfl (by decide) (Nat.le_of_ble_eq_true rfl) (fun r M2 h2 => ?_)
            obtain ⟨rfl, h2⟩ := h2
            obtain ⟨r2, f2⟩ := r1.mem h2
            refine x_iret hO hR dX3_addRule_68 rfl ?_
            rw [sc_9, sc_8, r1.rows, r1.nums] at r2
            rw [show M1 16 7 = s.1.2 0 from r1.num (j := 0) (by decide), show M1 16 8 = s.1.2 1 from r1.num (j := 1) (by decide), show M1 16 9 = s.1.2 2 from r1.num (j := 2) (by decide)] at r2
            exact ⟨r1.num (j := 1) (by decide), r2, f1.tr f2⟩
          · have q : aCnt s.1.1 = 32 := by have := (nI_eq (b := 0) (by omega) (by decide)).mp c5; omega
            rw [if_pos q] at hR
            refine x_bipush (v := (-3 : Int32)) hO dX3_addRule_42 rfl ?_
            refine x_iret hO hR dX3_addRule_44 rfl ?_
            exact ⟨rfl, h, frC.rf M⟩
        · exact bad (by simp [bI_0 c4])
theorem kc_addRange (U : xP) (M : xM) {s : aO} (h : RC M s) (hr : s.1.2 1 ≠ -1) (x y k a : Int32) : xMetI U mX3_addRange [.inr 0, .inl x, .inl y, .inl k, .inl a] M (poC M (o_addRange s x y k a)) := by
  refine xMetI.of (ty := .int) (L := [some (.inr 0), some (.inl x), some (.inl y), some (.inl k), some (.inl a)]) fX3_addRange rfl rfl (Nat.le_of_ble_eq_true rfl) (fun G hN hO hR => ?_)
  have hN : G.2.2.2.2.2.2.2.2.2.2.1 = 5 := hN
  have hO : xOK U G RX3 cX3_addRange 5 := hO
  unfold o_addRange at hR
  have bad : (rgB x y && (ixB k 100 && ixB a 10)) = false → XW U G 23 [some (.inr 0), some (.inl x), some (.inl y), some (.inl k), some (.inl a)] [] M := by
    intro hb
    rw [hb] at hR
    refine x_bipush (v := (-2 : Int32)) hO dX3_addRange_23 rfl ?_
    refine x_iret hO hR dX3_addRange_25 rfl ?_
    exact ⟨rfl, h, frC.rf M⟩
  refine x_iload_n hO dX3_addRange_0 rfl rfl ?_
  refine x_iload_n hO dX3_addRange_1 rfl rfl ?_
  refine x_callS1 hO (k_isRange U M x y) dX3_addRange_2 lkX3_59 fX3_isRange sX3_isRange rfl rfl (by decide) (Nat.le_of_ble_eq_true rfl) ?_
  refine x_if_eq (tgt := 23) hO dX3_addRange_5 (by decide) (fun c1 => ?_) (fun c1 => ?_)
  · exact bad (by simp [bI_0 c1])
  · refine x_iload_n hO dX3_addRange_8 rfl rfl ?_
    refine x_callS1 hO (k_isRank U M k) dX3_addRange_9 lkX3_41 fX3_isRank sX3_isRank rfl rfl (by decide) (Nat.le_of_ble_eq_true rfl) ?_
    refine x_if_eq (tgt := 23) hO dX3_addRange_12 (by decide) (fun c3 => ?_) (fun c3 => ?_)
    · exact bad (by simp [bI_0 c3])
    · refine x_iload hO dX3_addRange_15 rfl ?_
      refine x_callS1 hO (k_isAction U M a) dX3_addRange_17 lkX3_44 fX3_isAction sX3_isAction rfl rfl (by decide) (Nat.le_of_ble_eq_true rfl) ?_
      refine x_if_ne (tgt := 26) hO dX3_addRange_20 (by decide) (fun c4 => ?_) (fun c4 => ?_)
      · rw [bI_1 c1, bI_1 c3, bI_1 c4] at hR
        simp only [Bool.and_self, if_true] at hR
        obtain ⟨ex, ey, lx, ly, lxy⟩ := rgB_c (bI_1 c1)
        generalize x.toNatClampNeg = f at *
        generalize y.toNatClampNeg = g at *
        subst ex
        subst ey
        have hle := aCnt_le s.1.1
        refine x_aload_n hO dX3_addRange_26 rfl rfl ?_
        refine x_getR (T := TX3) (j := 0) hO dX3_addRange_27 flX3_10 (by decide) rfl rfl (by decide) rfl rfl ?_
        refine x_callV1 hO (k_freeSlots U M) dX3_addRange_30 lkX3_47 fX1_freeSlots vX1_freeSlots (by decide) rfl rfl rfl rfl rfl (by decide) (Nat.le_of_ble_eq_true rfl) ?_
        rw [h.rows]
        refine x_iload_n hO dX3_addRange_33 rfl rfl ?_
        refine x_iload_n hO dX3_addRange_34 rfl rfl ?_
        refine x_callS1 hO (k_blocksOf U M lx ly) dX3_addRange_35 lkX3_63 fX3_blocksOf sX3_blocksOf rfl rfl (by decide) (Nat.le_of_ble_eq_true rfl) ?_
        have hb14 : bCn g f 14 ≤ 14 := by
          have : ∀ (d f : Nat), bCn g f d ≤ d := by
            intro d
            induction d with
            | zero => intro f; exact Nat.le_refl _
            | succ d ih => intro f; simp only [bCn]; split
                           · omega
                           · have := ih (f + bS f g); omega
          exact this 14 f
        refine x_icmp_ge (tgt := 44) hO dX3_addRange_38 (by decide) (fun c5 => ?_) (fun c5 => ?_)
        · have q : ¬ 32 - aCnt s.1.1 < bCn g f 14 := by have := (nI_leI (by omega) (by omega)).mp c5; omega
          rw [if_neg q] at hR
          refine x_aload_n hO dX3_addRange_44 rfl rfl ?_
          refine x_getR (T := TX3) (j := 2) hO dX3_addRange_45 flX3_22 (by decide) rfl rfl (by decide) rfl rfl ?_
          refine x_aload_n hO dX3_addRange_48 rfl rfl ?_
          refine x_getR (T := TX3) (j := 0) hO dX3_addRange_49 flX3_10 (by decide) rfl rfl (by decide) rfl rfl ?_
          refine x_callVv hO (k_rec U M h) dX3_addRange_52 lkX3_51 fX0_record vX0_record (by decide) rfl rfl rfl rfl rfl (by decide) (Nat.le_of_ble_eq_true rfl) (fun M1 h1 => ?_)
          obtain ⟨r1, f1, e16, -, -⟩ := h1
          refine x_aload_n hO dX3_addRange_55 rfl rfl ?_
          refine x_getR (T := TX3) (j := 0) hO dX3_addRange_56 flX3_10 (by decide) rfl rfl (by decide) rfl rfl ?_
          refine x_iload_n hO dX3_addRange_59 rfl rfl ?_
          refine x_iload_n hO dX3_addRange_60 rfl rfl ?_
          refine x_iload_n hO dX3_addRange_61 rfl rfl ?_
          refine x_iload hO dX3_addRange_62 rfl ?_
          have hlt : aCnt (cA M1 16) + bCn g f 14 ≤ 32 := by rw [r1.rows]; show aCnt s.1.1 + _ ≤ 32; omega
          refine x_callV hO (k_addBlocks U M1 lx ly k a hlt (by rw [show M1 16 8 = s.1.2 1 from r1.num (j := 1) (by decide)]; exact hr)) dX3_addRange_64 lkX3_67 fX1_addBlocks vX1_addBlocks (by decide) rfl rfl rfl rfl rfl (by decide) (Nat.le_of_ble_eq_true rfl) (fun r M2 h2 => ?_)
          obtain ⟨rfl, h2⟩ := h2
          obtain ⟨r2, f2⟩ := r1.mem h2
          refine x_iret hO hR dX3_addRange_67 rfl ?_
          rw [sc_9, sc_8, r1.rows, r1.nums] at r2
          rw [show M1 16 7 = s.1.2 0 from r1.num (j := 0) (by decide), show M1 16 8 = s.1.2 1 from r1.num (j := 1) (by decide), show M1 16 9 = s.1.2 2 from r1.num (j := 2) (by decide)] at r2
          exact ⟨r1.num (j := 1) (by decide), r2, f1.tr f2⟩
        · have q : 32 - aCnt s.1.1 < bCn g f 14 := Nat.not_le.mp (fun z => c5 ((nI_leI (by omega) (by omega)).mpr z))
          rw [if_pos q] at hR
          refine x_bipush (v := (-3 : Int32)) hO dX3_addRange_41 rfl ?_
          refine x_iret hO hR dX3_addRange_43 rfl ?_
          exact ⟨rfl, h, frC.rf M⟩
      · exact bad (by simp [bI_0 c4])
theorem kc_remove (U : xP) (M : xM) {s : aO} (h : RC M s) (x : Int32) : xMetI U mX3_remove [.inr 0, .inl x] M (poC M (o_remove s x)) := by
  refine xMetI.of (ty := .int) (L := [some (.inr 0), some (.inl x), none]) fX3_remove rfl rfl (Nat.le_of_ble_eq_true rfl) (fun G hN hO hR => ?_)
  have hN : G.2.2.2.2.2.2.2.2.2.2.1 = 3 := hN
  have hO : xOK U G RX3 cX3_remove 3 := hO
  unfold o_remove at hR
  have hle := nC_le (pRule s.1.1 x) 32
  refine x_aload_n hO dX3_remove_0 rfl rfl ?_
  refine x_getR (T := TX3) (j := 0) hO dX3_remove_1 flX3_10 (by decide) rfl rfl (by decide) rfl rfl ?_
  refine x_iload_n hO dX3_remove_4 rfl rfl ?_
  refine x_callV1 hO (k_entriesOf U M x) dX3_remove_5 lkX3_70 fX1_entriesOf vX1_entriesOf (by decide) rfl rfl rfl rfl rfl (by decide) (Nat.le_of_ble_eq_true rfl) ?_
  rw [h.rows]
  generalize nC (pRule s.1.1 x) 32 = n at *
  refine x_istore_n (n := 3) hO dX3_remove_8 rfl rfl (by decide) hN ?_
  refine x_iload_n hO dX3_remove_9 rfl rfl ?_
  refine x_if_ne (tgt := 15) hO dX3_remove_10 (by decide) (fun c => ?_) (fun c => ?_)
  · have q : ¬ n = 0 := fun z => c (by rw [z]; rfl)
    rw [if_neg q] at hR
    refine x_aload_n hO dX3_remove_15 rfl rfl ?_
    refine x_getR (T := TX3) (j := 2) hO dX3_remove_16 flX3_22 (by decide) rfl rfl (by decide) rfl rfl ?_
    refine x_aload_n hO dX3_remove_19 rfl rfl ?_
    refine x_getR (T := TX3) (j := 0) hO dX3_remove_20 flX3_10 (by decide) rfl rfl (by decide) rfl rfl ?_
    refine x_callVv hO (k_rec U M h) dX3_remove_23 lkX3_51 fX0_record vX0_record (by decide) rfl rfl rfl rfl rfl (by decide) (Nat.le_of_ble_eq_true rfl) (fun M1 h1 => ?_)
    obtain ⟨r1, f1, e16, -, -⟩ := h1
    refine x_aload_n hO dX3_remove_26 rfl rfl ?_
    refine x_getR (T := TX3) (j := 0) hO dX3_remove_27 flX3_10 (by decide) rfl rfl (by decide) rfl rfl ?_
    refine x_iload_n hO dX3_remove_30 rfl rfl ?_
    refine x_callVv hO (k_dropEntriesOf U M1 x) dX3_remove_31 lkX3_74 fX1_dropEntriesOf vX1_dropEntriesOf (by decide) rfl rfl rfl rfl rfl (by decide) (Nat.le_of_ble_eq_true rfl) (fun M2 h2 => ?_)
    obtain ⟨r2, f2⟩ := r1.mem h2
    refine x_iload_n hO dX3_remove_34 rfl rfl ?_
    refine x_iret hO hR dX3_remove_35 rfl ?_
    rw [r1.rows, r1.nums] at r2
    exact ⟨rfl, r2, f1.tr f2⟩
  · have q : n = 0 := (nI_eq (b := 0) (by omega) (by decide)).mp c
    rw [if_pos q] at hR
    refine x_iconst (v := (-1 : Int32)) hO dX3_remove_13 rfl ?_
    refine x_iret hO hR dX3_remove_14 rfl ?_
    exact ⟨rfl, h, frC.rf M⟩
theorem kc_setPlacing (U : xP) (M : xM) {s : aO} (h : RC M s) (x : Int32) : xMetI U mX3_setPlacing [.inr 0, .inl x] M (poC M (o_setPlacing s x)) := by
  refine xMetI.of (ty := .int) (L := [some (.inr 0), some (.inl x), none]) fX3_setPlacing rfl rfl (Nat.le_of_ble_eq_true rfl) (fun G hN hO hR => ?_)
  have hN : G.2.2.2.2.2.2.2.2.2.2.1 = 3 := hN
  have hO : xOK U G RX3 cX3_setPlacing 3 := hO
  unfold o_setPlacing at hR
  have e7 : M 16 7 = s.1.2 0 := h.num (j := 0) (by decide)
  have bad : ixB x 3 = false → XW U G 9 [some (.inr 0), some (.inl x), none] [] M := by
    intro hb
    rw [hb] at hR
    refine x_bipush (v := (-2 : Int32)) hO dX3_setPlacing_9 rfl ?_
    refine x_iret hO hR dX3_setPlacing_11 rfl ?_
    exact ⟨rfl, h, frC.rf M⟩
  refine x_iload_n hO dX3_setPlacing_0 rfl rfl ?_
  refine x_if_lt (tgt := 9) hO dX3_setPlacing_1 (by decide) (fun c => ?_) (fun c => ?_)
  · exact bad (ixB_lo c)
  · refine x_iload_n hO dX3_setPlacing_4 rfl rfl ?_
    refine x_iconst (v := nI 3) hO dX3_setPlacing_5 rfl ?_
    refine x_icmp_lt (tgt := 12) hO dX3_setPlacing_6 (by decide) (fun c2 => ?_) (fun c2 => ?_)
    · have hi : ixB x 3 = true := decide_eq_true ⟨c, c2⟩
      rw [hi] at hR
      simp only [if_true] at hR
      refine x_aload_n hO dX3_setPlacing_12 rfl rfl ?_
      refine x_getR (T := TX3) (j := 0) hO dX3_setPlacing_13 flX3_10 (by decide) rfl rfl (by decide) rfl rfl ?_
      refine x_getNI (T := TX1) (j := 7) hO dX3_setPlacing_16 flX3_78 (by decide) rfl rfl (by decide) rfl rfl ?_
      rw [e7]
      refine x_istore_n (n := 3) hO dX3_setPlacing_19 rfl rfl (by decide) hN ?_
      refine x_iload_n hO dX3_setPlacing_20 rfl rfl ?_
      refine x_iload_n hO dX3_setPlacing_21 rfl rfl ?_
      refine x_icmp_ne (tgt := 28) hO dX3_setPlacing_22 (by decide) (fun c3 => ?_) (fun c3 => ?_)
      · rw [if_neg c3] at hR
        refine x_aload_n hO dX3_setPlacing_28 rfl rfl ?_
        refine x_getR (T := TX3) (j := 2) hO dX3_setPlacing_29 flX3_22 (by decide) rfl rfl (by decide) rfl rfl ?_
        refine x_aload_n hO dX3_setPlacing_32 rfl rfl ?_
        refine x_getR (T := TX3) (j := 0) hO dX3_setPlacing_33 flX3_10 (by decide) rfl rfl (by decide) rfl rfl ?_
        refine x_callVv hO (k_rec U M h) dX3_setPlacing_36 lkX3_51 fX0_record vX0_record (by decide) rfl rfl rfl rfl rfl (by decide) (Nat.le_of_ble_eq_true rfl) (fun M1 h1 => ?_)
        obtain ⟨r1, f1, e16, -, -⟩ := h1
        refine x_aload_n hO dX3_setPlacing_39 rfl rfl ?_
        refine x_getR (T := TX3) (j := 0) hO dX3_setPlacing_40 flX3_10 (by decide) rfl rfl (by decide) rfl rfl ?_
        refine x_iload_n hO dX3_setPlacing_43 rfl rfl ?_
        refine x_putN (T := TX1) (j := 7) (ty := .int) hO dX3_setPlacing_44 flX3_78 (by decide) rfl rfl (by decide) rfl rfl rfl (by decide +kernel) rfl rfl ?_
        have h2 := mSt.num (M := M1) 7 (by decide) x
        obtain ⟨r2, f2⟩ := r1.mem h2
        refine x_iload_n hO dX3_setPlacing_47 rfl rfl ?_
        refine x_iret hO hR dX3_setPlacing_48 rfl ?_
        rw [r1.rows, sc_7, r1.nums] at r2
        exact ⟨rfl, r2, f1.tr f2⟩
      · rw [if_pos c3] at hR
        refine x_bipush (v := (-4 : Int32)) hO dX3_setPlacing_25 rfl ?_
        refine x_iret hO hR dX3_setPlacing_27 rfl ?_
        exact ⟨rfl, h, frC.rf M⟩
    · exact bad (ixB_hi (Int32.not_lt.mp c2))
theorem kc_rearrange (U : xP) (M : xM) {s : aO} (h : RC M s) {n : Nat} (hn : n ≤ 32) (hc : aCnt s.1.1 ≤ n) : xMetI U mX3_rearrange [.inr 0, .inl (nI n)] M (poC M (o_re s n)) := by
  refine xMetI.of (ty := .int) (L := [some (.inr 0), some (.inl (nI n)), none]) fX3_rearrange rfl rfl (Nat.le_of_ble_eq_true rfl) (fun G hN hO hR => ?_)
  have hN : G.2.2.2.2.2.2.2.2.2.2.1 = 3 := hN
  have hO : xOK U G RX3 cX3_rearrange 4 := hO
  unfold o_re at hR
  have hle := nC_le (pOut s.1.1 n) 32
  refine x_aload_n hO dX3_rearrange_0 rfl rfl ?_
  refine x_getR (T := TX3) (j := 0) hO dX3_rearrange_1 flX3_10 (by decide) rfl rfl (by decide) rfl rfl ?_
  refine x_iload_n hO dX3_rearrange_4 rfl rfl ?_
  refine x_callV1 hO (k_entriesOutOfShare U M hn) dX3_rearrange_5 lkX3_201 fX1_entriesOutOfShare vX1_entriesOutOfShare (by decide) rfl rfl rfl rfl rfl (by decide) (Nat.le_of_ble_eq_true rfl) ?_
  rw [h.rows]
  generalize nC (pOut s.1.1 n) 32 = v at *
  refine x_istore_n (n := 3) hO dX3_rearrange_8 rfl rfl (by decide) hN ?_
  refine x_iload_n hO dX3_rearrange_9 rfl rfl ?_
  refine x_if_ne (tgt := 16) hO dX3_rearrange_10 (by decide) (fun c => ?_) (fun c => ?_)
  · have q : ¬ v = 0 := fun z => c (by rw [z]; rfl)
    rw [if_neg q] at hR
    refine x_aload_n hO dX3_rearrange_16 rfl rfl ?_
    refine x_getR (T := TX3) (j := 2) hO dX3_rearrange_17 flX3_22 (by decide) rfl rfl (by decide) rfl rfl ?_
    refine x_aload_n hO dX3_rearrange_20 rfl rfl ?_
    refine x_getR (T := TX3) (j := 0) hO dX3_rearrange_21 flX3_10 (by decide) rfl rfl (by decide) rfl rfl ?_
    refine x_callVv hO (k_rec U M h) dX3_rearrange_24 lkX3_51 fX0_record vX0_record (by decide) rfl rfl rfl rfl rfl (by decide) (Nat.le_of_ble_eq_true rfl) (fun M1 h1 => ?_)
    obtain ⟨r1, f1, e16, -, -⟩ := h1
    refine x_aload_n hO dX3_rearrange_27 rfl rfl ?_
    refine x_getR (T := TX3) (j := 0) hO dX3_rearrange_28 flX3_10 (by decide) rfl rfl (by decide) rfl rfl ?_
    refine x_iload_n hO dX3_rearrange_31 rfl rfl ?_
    refine x_callVv hO (k_moveIntoShares U M1 hn (by rw [r1.rows]; exact hc)) dX3_rearrange_32 lkX3_204 fX1_moveIntoShares vX1_moveIntoShares (by decide) rfl rfl rfl rfl rfl (by decide) (Nat.le_of_ble_eq_true rfl) (fun M2 h2 => ?_)
    obtain ⟨B, hB, h2⟩ := h2
    rw [r1.rows] at hB
    have hB : B = aSp s.1.1 n := hB.eq hn
    subst hB
    obtain ⟨r2, f2⟩ := r1.mem h2
    have e9 : M2 16 9 = s.1.2 2 := by rw [h2.2.1]; exact r1.num (j := 2) (by decide)
    refine x_aload_n hO dX3_rearrange_35 rfl rfl ?_
    refine x_getR (T := TX3) (j := 0) hO dX3_rearrange_36 flX3_10 (by decide) rfl rfl (by decide) rfl rfl ?_
    refine x_dup hO dX3_rearrange_39 ?_
    refine x_getNI (T := TX1) (j := 9) hO dX3_rearrange_40 flX3_189 (by decide) rfl rfl (by decide) rfl rfl ?_
    rw [e9]
    refine x_iload_n hO dX3_rearrange_43 rfl rfl ?_
    refine x_iadd hO dX3_rearrange_44 ?_
    refine x_putN (T := TX1) (j := 9) (ty := .int) hO dX3_rearrange_45 flX3_189 (by decide) rfl rfl (by decide) rfl rfl rfl (by decide +kernel) rfl rfl ?_
    have h3 := mSt.num (M := M2) 9 (by decide) (s.1.2 2 + nI v)
    obtain ⟨r3, f3⟩ := r2.mem h3
    refine x_iload_n hO dX3_rearrange_48 rfl rfl ?_
    refine x_iret hO hR dX3_rearrange_49 rfl ?_
    rw [sc_9, r2.rows, r2.nums] at r3
    have e : sc (M1 16) = s.1.2 := r1.nums
    refine ⟨rfl, ?_, (f1.tr f2).tr f3⟩
    have r4 : RC (xset M2 16 9 (s.1.2 2 + nI v)) (oCur (oRec s) (aSp s.1.1 n, upd (sc (M1 16)) 2 (s.1.2 2 + nI v))) := r3
    rw [e] at r4
    exact r4
  · have q : v = 0 := (nI_eq (b := 0) (by omega) (by decide)).mp c
    rw [if_pos q] at hR
    refine x_bipush (v := (-4 : Int32)) hO dX3_rearrange_13 rfl ?_
    refine x_iret hO hR dX3_rearrange_15 rfl ?_
    exact ⟨rfl, h, frC.rf M⟩
theorem kc_compact (U : xP) (M : xM) {s : aO} (h : RC M s) : xMetI U mX3_compact [.inr 0] M (poC M (o_re s 32)) := by
  refine xMetI.of (ty := .int) (L := [some (.inr 0)]) fX3_compact rfl rfl (Nat.le_of_ble_eq_true rfl) (fun G hN hO hR => ?_)
  have hN : G.2.2.2.2.2.2.2.2.2.2.1 = 1 := hN
  have hO : xOK U G RX3 cX3_compact 5 := hO
  refine x_aload_n hO dX3_compact_0 rfl rfl ?_
  refine x_bipush (v := nI 32) hO dX3_compact_1 rfl ?_
  refine x_callV hO (kc_rearrange U M h (n := 32) (by decide) (aCnt_le _)) dX3_compact_3 lkX3_82 fX3_rearrange vX3_rearrange (by decide) rfl rfl rfl rfl rfl (by decide) (Nat.le_of_ble_eq_true rfl) (fun r M1 h1 => ?_)
  refine x_iret hO hR dX3_compact_6 rfl ?_
  exact h1
theorem kc_spread (U : xP) (M : xM) {s : aO} (h : RC M s) : xMetI U mX3_spread [.inr 0] M (poC M (o_re s (aCnt s.1.1))) := by
  refine xMetI.of (ty := .int) (L := [some (.inr 0)]) fX3_spread rfl rfl (Nat.le_of_ble_eq_true rfl) (fun G hN hO hR => ?_)
  have hN : G.2.2.2.2.2.2.2.2.2.2.1 = 1 := hN
  have hO : xOK U G RX3 cX3_spread 5 := hO
  refine x_aload_n hO dX3_spread_0 rfl rfl ?_
  refine x_aload_n hO dX3_spread_1 rfl rfl ?_
  refine x_getR (T := TX3) (j := 0) hO dX3_spread_2 flX3_10 (by decide) rfl rfl (by decide) rfl rfl ?_
  refine x_callV1 hO (k_entries U M) dX3_spread_5 lkX3_85 fX1_entries vX1_entries (by decide) rfl rfl rfl rfl rfl (by decide) (Nat.le_of_ble_eq_true rfl) ?_
  rw [h.rows]
  refine x_callV hO (kc_rearrange U M h (n := aCnt s.1.1) (aCnt_le _) (Nat.le_refl _)) dX3_spread_8 lkX3_82 fX3_rearrange vX3_rearrange (by decide) rfl rfl rfl rfl rfl (by decide) (Nat.le_of_ble_eq_true rfl) (fun r M1 h1 => ?_)
  refine x_iret hO hR dX3_spread_11 rfl ?_
  exact h1
theorem aN_lt {f : Nat} (h : f < 32) : aN f = nI f := if_pos h
theorem aN_ge {f : Nat} (h : ¬ f < 32) : aN f = -1 := if_neg h
theorem aN_m1 {f : Nat} : aN f = -1 ↔ ¬ f < 32 := by
  constructor
  · intro h q
    rw [aN_lt q] at h
    exact absurd (by rw [h]; decide) (nI_pos (n := f) (by omega))
  · exact aN_ge
theorem aFd_oc {A : aR} {x : Int32} (h : aFd A x < 32) : aoc A (aFd A x) = true := by
  have := nF_yes (P := pKey A x) 32 0 (by unfold aFd at h; omega)
  simp only [pKey, Bool.and_eq_true] at this
  exact this.1
theorem kc_search (U : xP) (M : xM) {s : aO} (h : RC M s) (x : Int32) : xMetI U mX3_search [.inr 0, .inl x] M (poC M (o_search s x)) := by
  refine xMetI.of (ty := .int) (L := [some (.inr 0), some (.inl x), none]) fX3_search rfl rfl (Nat.le_of_ble_eq_true rfl) (fun G hN hO hR => ?_)
  have hN : G.2.2.2.2.2.2.2.2.2.2.1 = 3 := hN
  have hO : xOK U G RX3 cX3_search 6 := hO
  unfold o_search at hR
  refine x_iload_n hO dX3_search_0 rfl rfl ?_
  refine x_callS1 hO (k_isKey U M x) dX3_search_1 lkX3_37 fX3_isKey sX3_isKey rfl rfl (by decide) (Nat.le_of_ble_eq_true rfl) ?_
  refine x_if_ne (tgt := 10) hO dX3_search_4 (by decide) (fun c => ?_) (fun c => ?_)
  · rw [bI_1 c] at hR
    simp only [if_true] at hR
    refine x_aload_n hO dX3_search_10 rfl rfl ?_
    refine x_getR (T := TX3) (j := 0) hO dX3_search_11 flX3_10 (by decide) rfl rfl (by decide) rfl rfl ?_
    refine x_iload_n hO dX3_search_14 rfl rfl ?_
    refine x_callV1 hO (k_slotFoundBy U M x) dX3_search_15 lkX3_88 fX1_slotFoundBy vX1_slotFoundBy (by decide) rfl rfl rfl rfl rfl (by decide) (Nat.le_of_ble_eq_true rfl) ?_
    rw [h.rows]
    refine x_istore_n (n := 3) hO dX3_search_18 rfl rfl (by decide) hN ?_
    refine x_iload_n hO dX3_search_19 rfl rfl ?_
    refine x_iconst (v := (-1 : Int32)) hO dX3_search_20 rfl ?_
    refine x_icmp_ne (tgt := 27) hO dX3_search_21 (by decide) (fun c2 => ?_) (fun c2 => ?_)
    · have q : aFd s.1.1 x < 32 := by
        rcases Nat.lt_or_ge (aFd s.1.1 x) 32 with q | q
        · exact q
        · exact absurd (aN_ge (by omega)) c2
      have ho := aFd_oc q
      rw [if_pos q] at hR
      rw [aN_lt q]
      generalize aFd s.1.1 x = f at *
      refine x_aload_n hO dX3_search_27 rfl rfl ?_
      refine x_getR (T := TX3) (j := 2) hO dX3_search_28 flX3_22 (by decide) rfl rfl (by decide) rfl rfl ?_
      refine x_aload_n hO dX3_search_31 rfl rfl ?_
      refine x_getR (T := TX3) (j := 0) hO dX3_search_32 flX3_10 (by decide) rfl rfl (by decide) rfl rfl ?_
      refine x_callVv hO (k_rec U M h) dX3_search_35 lkX3_51 fX0_record vX0_record (by decide) rfl rfl rfl rfl rfl (by decide) (Nat.le_of_ble_eq_true rfl) (fun M1 h1 => ?_)
      obtain ⟨r1, f1, e16, -, -⟩ := h1
      refine x_aload_n hO dX3_search_38 rfl rfl ?_
      refine x_getR (T := TX3) (j := 0) hO dX3_search_39 flX3_10 (by decide) rfl rfl (by decide) rfl rfl ?_
      refine x_iload_n hO dX3_search_42 rfl rfl ?_
      refine x_iload_n hO dX3_search_43 rfl rfl ?_
      have ho1 : aoc (cA M1 16) f = true := by rw [r1.rows]; exact ho
      refine x_callVv hO (k_countSearch U M1 x q ho1) dX3_search_44 lkX3_91 fX1_countSearch vX1_countSearch (by decide) rfl rfl rfl rfl rfl (by decide) (Nat.le_of_ble_eq_true rfl) (fun M2 h2 => ?_)
      obtain ⟨r2, f2⟩ := r1.mem h2
      refine x_aload_n hO dX3_search_47 rfl rfl ?_
      refine x_getR (T := TX3) (j := 0) hO dX3_search_48 flX3_10 (by decide) rfl rfl (by decide) rfl rfl ?_
      refine x_aload_n hO dX3_search_51 rfl rfl ?_
      refine x_getR (T := TX3) (j := 0) hO dX3_search_52 flX3_10 (by decide) rfl rfl (by decide) rfl rfl ?_
      refine x_getNR (T := TX1) (j := 5) hO dX3_search_55 flX3_95 (by decide) rfl rfl (by decide) rfl rfl ?_
      refine x_iload_n hO dX3_search_58 rfl rfl ?_
      refine x_callV1 hO (k_told U M2 (k := 22) (by decide) rfl (nI f)) dX3_search_59 lkX3_99 fX1_told vX1_told (by decide) rfl rfl rfl rfl rfl (by decide) (Nat.le_of_ble_eq_true rfl) ?_
      have ho2 : aoc (cA M2 16) f = true := by
        rw [h2.1]
        unfold aoc aHt
        rw [if_neg (fun z => absurd z.1 (by decide))]
        exact ho1
      have e5 : M2 22 f = s.1.1 f 5 := by
        have := cA_in (M := M2) (b := 16) (w := 5) ho2 (by decide)
        rw [h2.1] at this
        unfold aHt at this
        rw [if_neg (fun z => absurd z.1 (by decide)), r1.rows] at this
        exact this
      rw [ixB_n q (by decide), nI_clamp (by omega), ho2, if_pos rfl, if_pos rfl, e5]
      refine x_iret hO hR dX3_search_62 rfl ?_
      rw [sc_11, sc_10, r1.rows, r1.nums] at r2
      rw [show M1 16 10 = s.1.2 3 from r1.num (j := 3) (by decide), show M1 16 11 = s.1.2 4 from r1.num (j := 4) (by decide)] at r2
      exact ⟨rfl, r2, f1.tr f2⟩
    · have q : ¬ aFd s.1.1 x < 32 := aN_m1.mp c2
      rw [if_neg q] at hR
      refine x_bipush (v := (-4 : Int32)) hO dX3_search_24 rfl ?_
      refine x_iret hO hR dX3_search_26 rfl ?_
      exact ⟨rfl, h, frC.rf M⟩
  · rw [bI_0 c] at hR
    refine x_bipush (v := (-2 : Int32)) hO dX3_search_7 rfl ?_
    refine x_iret hO hR dX3_search_9 rfl ?_
    exact ⟨rfl, h, frC.rf M⟩
/-! ===== texts, history ===== -/
theorem RC.txt {M : xM} {s : aO} (h : RC M s) : ∃ n : Nat, n ≤ 60 ∧ M 3 1 = nI n ∧ s.2.2.2.1 = n ∧ s.2.2.2.2 = sg (M 4) n := by
  obtain ⟨-, -, -, n, h8, h9, h10⟩ := h
  exact ⟨n, h8, h9, by rw [h10], by rw [h10]⟩
/-- only the text's cells change -/
theorem RC.text {M M' : xM} {s : aO} {n : Nat} (h : RC M s) (hk : ∀ k, k ≠ 3 → k ≠ 4 → k ≠ 5 → k ≠ 6 → k ≠ 7 → k ≠ 8 → M' k = M k) (hn : n ≤ 60) (h31 : M' 3 1 = nI n) {t : tT} (ht : sg (M' 4) n = t) : RC M' (oTxt s (n, t)) ∧ frC M M' := by
  obtain ⟨h1, h2, ⟨o, c, h3, h4, h5, h6, h7⟩, -⟩ := h
  have e : ∀ k, 9 ≤ k → M' k = M k := fun k a => hk k (by omega) (by omega) (by omega) (by omega) (by omega) (by omega)
  have eb : ∀ i, stC M' (hb o i) = stC M (hb o i) := fun i => stC_fr (fun k a _ => e k (by unfold hb at a; omega))
  have e1 : M' 1 = M 1 := hk 1 (by decide) (by decide) (by decide) (by decide) (by decide) (by decide)
  refine ⟨⟨?_, ?_, ⟨o, c, h3, h4, by rw [e1]; exact h5, by rw [e1]; exact h6, ?_⟩, n, hn, h31, by rw [ht]; rfl⟩, fun k a _ => e k a⟩
  · rw [stC_fr (M := M) (M' := M') (b := 16) (fun k a _ => e k (by omega))]
    exact h1
  · rw [hk 0 (by decide) (by decide) (by decide) (by decide) (by decide) (by decide), stC_fr (M := M) (M' := M') (b := 24) (fun k a _ => e k (by omega))]
    exact h2
  · simp only [eb]
    exact h7
theorem sg_upd (T : tT) (n : Nat) (x : Int32) : sg (upd T n x) (n + 1) = upd (sg T n) n x := by
  funext p
  unfold sg
  simp only [upd_at]
  by_cases e : p = n
  · subst e
    simp
  · have : p < n + 1 ↔ p < n := by omega
    simp only [this, if_neg e]
theorem sg_sg (T : tT) (n p : Nat) : sg (sg T n) n p = sg T n p := by
  unfold sg
  split <;> rfl
theorem rE_sg (T : tT) (n p : Nat) : rE (sg T n) n p = rE T n p := by
  unfold rE
  simp only [sg_sg]
theorem rK_sg (T : tT) (n p : Nat) : rK (sg T n) n p = rK T n p := by
  unfold rK
  simp only [sg_sg]
theorem rOK_sg (T : tT) (n p : Nat) : rOK (sg T n) n p = rOK T n p := by
  unfold rOK
  simp only [sg_sg, rE_sg, rK_sg]
theorem rEnd_sg (T : tT) (n p : Nat) : rEnd (sg T n) n p = rEnd T n p := by
  unfold rEnd
  simp only [sg_sg, rE_sg, rK_sg]
theorem tx_sg (T : tT) (n : Nat) : ∀ (d p i : Nat), tx (sg T n) n d p i = tx T n d p i
  | 0, _, _ => rfl
  | d + 1, p, i => by
    simp only [tx, sg_sg, rOK_sg, rEnd_sg, tx_sg T n d]
theorem tB_sg (T : tT) (n : Nat) : ∀ i, tB (sg T n) n i = tB T n i
  | 0 => rfl
  | i + 1 => by simp only [tB, tB_sg T n i, rEnd_sg]
theorem eM_sg (T : tT) {n p : Nat} : ∀ {i : Nat}, p + i ≤ n → eM (sg T n) p i = eM T p i
  | 0, _ => rfl
  | i + 1, h => by simp only [eM, eM_sg T (n := n) (p := p) (i := i) (by omega), sg_in (T := T) (show p + i < n by omega)]
theorem eV_sg (T : tT) {n p : Nat} : ∀ {i : Nat}, p + i ≤ n → eV (sg T n) p i = eV T p i
  | 0, _ => rfl
  | i + 1, h => by simp only [eV, eV_sg T (n := n) (p := p) (i := i) (by omega), sg_in (T := T) (show p + i < n by omega)]
theorem rRank_sg (T : tT) {n p : Nat} (h : rOK T n p = true) : rRank (sg T n) n p = rRank T n p := by
  obtain ⟨-, h2⟩ := rOK_end h
  unfold rRank
  rw [sg_sg]
  split
  · rename_i q
    rw [sg_in (isD_lt q), sg_in (by omega)]
  · rw [sg_in (by omega)]
theorem rAct_sg (T : tT) {n p : Nat} (h : rOK T n p = true) : rAct (sg T n) n p = rAct T n p := by
  obtain ⟨-, h2⟩ := rOK_end h
  unfold rAct
  rw [rK_sg, sg_in (by omega)]
/-- the rules that were read are good -/
theorem tx_ok {T : tT} {n : Nat} : ∀ (d i : Nat), (tx T n d (tB T n i) i).1 = true → i ≤ (tx T n d (tB T n i) i).2.2 ∧ (tx T n d (tB T n i) i).2.2 ≤ i + d ∧ ∀ j, i ≤ j → j < (tx T n d (tB T n i) i).2.2 → rOK T n (tB T n j) = true
  | 0, i, h => by simp [tx] at h
  | d + 1, i, h => by
    simp only [tx] at h ⊢
    by_cases q : rOK T n (tB T n i) = true
    · simp only [q, if_true] at h ⊢
      by_cases q2 : rEnd T n (tB T n i) = n
      · simp only [q2, if_true] at h ⊢
        refine ⟨by omega, by omega, fun j h1 h2 => ?_⟩
        obtain rfl : j = i := by omega
        exact q
      · simp only [q2, if_false] at h ⊢
        by_cases q3 : sg T n (rEnd T n (tB T n i)) = nI 59
        · simp only [q3, if_true] at h ⊢
          have ih := tx_ok (T := T) (n := n) d (i + 1) h
          have e : tB T n (i + 1) = rEnd T n (tB T n i) + 1 := rfl
          rw [e] at ih
          refine ⟨by omega, by omega, fun j h1 h2 => ?_⟩
          rcases Nat.lt_or_ge i j with z | z
          · exact ih.2.2 j z h2
          · obtain rfl : j = i := by omega
            exact q
        · simp only [q3, if_false] at h
          exact absurd h (by simp)
    · simp only [q] at h
      exact absurd h (by simp)
theorem nI_m1 {n : Nat} (h : n < 2 ^ 31) : nI n ≠ -1 := by
  intro z
  exact absurd (by rw [z]; decide) (nI_pos h)
theorem tx_le {T : tT} {n : Nat} : ∀ (d p i : Nat), p ≤ n → (tx T n d p i).2.1 ≤ n
  | 0, p, i, h => h
  | d + 1, p, i, h => by
    have e := rEnd_le T h
    simp only [tx]
    split
    · split
      · exact e
      · split
        · rename_i q
          have := sg_lt q (by decide)
          exact tx_le d _ _ (by omega)
        · exact e
    · exact e
theorem kc_addText (U : xP) (M : xM) {s : aO} (h : RC M s) {a : Nat} (ha : s.1.2 1 = nI a) (ha2 : a < 100000) : xMetI U mX3_addText [.inr 0] M (poC M (o_addText s)) := by
  refine xMetI.of (ty := .int) (L := [some (.inr 0), none, none, none]) fX3_addText rfl rfl (Nat.le_of_ble_eq_true rfl) (fun G hN hO hR => ?_)
  have hN : G.2.2.2.2.2.2.2.2.2.2.1 = 4 := hN
  have hO : xOK U G RX3 cX3_addText 5 := hO
  unfold o_addText at hR
  obtain ⟨n, hn, h31, e1, e2⟩ := h.txt
  rw [e1, e2, tx_sg] at hR
  have hle := aCnt_le s.1.1
  have hok := tx_ok (T := M 4) (n := n) 5 0
  rw [show tB (M 4) n 0 = 0 from rfl] at hok
  refine x_aload_n hO dX3_addText_0 rfl rfl ?_
  refine x_getR (T := TX3) (j := 3) hO dX3_addText_1 flX3_29 (by decide) rfl rfl (by decide) rfl rfl ?_
  refine x_callV hO (k_readRules U M h31 hn) dX3_addText_4 lkX3_110 fX2_readRules vX2_readRules (by decide) rfl rfl rfl rfl rfl (by decide) (Nat.le_of_ble_eq_true rfl) (fun r M1 h1 => ?_)
  obtain ⟨rfl, d1, g31, gk⟩ := h1
  have g4 : M1 4 = M 4 := gk 4 (by decide) (by decide) (by decide) (by decide) (by decide)
  obtain ⟨r0, f1⟩ := h.text (M' := M1) (fun k k3 _ k5 k6 k7 k8 => gk k k3 k5 k6 k7 k8) hn g31 (t := sg (M 4) n) (by rw [g4])
  have r1 : RC M1 s := by
    have e : oTxt s (n, sg (M 4) n) = s := by
      obtain ⟨s1, s2, s3, s4, s5⟩ := s
      simp only [oTxt] at *
      rw [e1, e2]
    rw [e] at r0
    exact r0
  clear r0
  have hle2 : (tx (M 4) n 5 0 0).2.1 < 2 ^ 31 := by
    have := tx_le (T := M 4) (n := n) 5 0 0 (Nat.zero_le _)
    omega
  generalize hT : M 4 = T at *
  generalize hg : tx T n 5 0 0 = g at *
  refine x_istore_n (n := 4) hO dX3_addText_7 rfl rfl (by decide) hN ?_
  refine x_iload_n hO dX3_addText_8 rfl rfl ?_
  refine x_iconst (v := (-1 : Int32)) hO dX3_addText_9 rfl ?_
  by_cases q : g.1 = true
  · rw [if_pos q] at hR ⊢
    obtain ⟨g33, dat⟩ := d1 q
    obtain ⟨-, l5, ok⟩ := hok q
    generalize g.2.2 = m at *
    refine x_icmp_eq (tgt := 18) hO dX3_addText_10 (by decide) (fun c => ?_) (fun c => ?_)
    · refine x_aload_n hO dX3_addText_18 rfl rfl ?_
      refine x_getR (T := TX3) (j := 3) hO dX3_addText_19 flX3_29 (by decide) rfl rfl (by decide) rfl rfl ?_
      refine x_getNI (T := TX2) (j := 3) hO dX3_addText_22 flX3_113 (by decide) rfl rfl (by decide) rfl rfl ?_
      rw [g33]
      refine x_istore_n (n := 4) hO dX3_addText_25 rfl rfl (by decide) hN ?_
      refine x_aload_n hO dX3_addText_26 rfl rfl ?_
      refine x_getR (T := TX3) (j := 0) hO dX3_addText_27 flX3_10 (by decide) rfl rfl (by decide) rfl rfl ?_
      refine x_callV1 hO (k_freeSlots U M1) dX3_addText_30 lkX3_47 fX1_freeSlots vX1_freeSlots (by decide) rfl rfl rfl rfl rfl (by decide) (Nat.le_of_ble_eq_true rfl) ?_
      rw [r1.rows]
      refine x_iload_n hO dX3_addText_33 rfl rfl ?_
      refine x_icmp_ge (tgt := 40) hO dX3_addText_34 (by decide) (fun c2 => ?_) (fun c2 => ?_)
      · have q2 : ¬ 32 - aCnt s.1.1 < m := by have := (nI_leI (by omega) (by omega)).mp c2; omega
        rw [if_neg q2] at hR
        refine x_aload_n hO dX3_addText_40 rfl rfl ?_
        refine x_getR (T := TX3) (j := 2) hO dX3_addText_41 flX3_22 (by decide) rfl rfl (by decide) rfl rfl ?_
        refine x_aload_n hO dX3_addText_44 rfl rfl ?_
        refine x_getR (T := TX3) (j := 0) hO dX3_addText_45 flX3_10 (by decide) rfl rfl (by decide) rfl rfl ?_
        refine x_callVv hO (k_rec U M1 r1) dX3_addText_48 lkX3_51 fX0_record vX0_record (by decide) rfl rfl rfl rfl rfl (by decide) (Nat.le_of_ble_eq_true rfl) (fun M2 h2 => ?_)
        obtain ⟨r2, f2, e16, -, etxt⟩ := h2
        have dat2 : tDat T n m M2 := fun j hj => by
          rw [etxt 5 (by decide) (by decide), etxt 6 (by decide) (by decide), etxt 7 (by decide) (by decide), etxt 8 (by decide) (by decide)]
          exact dat j hj
        refine x_iconst (v := nI 0) hO dX3_addText_51 rfl ?_
        refine x_istore_n (n := 4) hO dX3_addText_52 rfl rfl (by decide) hN ?_
        have hcnt : ∀ i, i ≤ m → aCnt (txtS s.1 (sg T n) n i).1 = aCnt s.1.1 + i ∧ (txtS s.1 (sg T n) n i).2 1 = nI (a + i) := by
          intro i
          induction i with
          | zero => intro _; exact ⟨rfl, ha⟩
          | succ i ih =>
            intro hi
            obtain ⟨i1, i2⟩ := ih (by omega)
            simp only [txtS, addS]
            refine ⟨?_, ?_⟩
            · rw [aCnt_add _ _ (by omega) ?_, i1]
              · rfl
              · show (txtS s.1 (sg T n) n i).2 1 ≠ -1
                rw [i2]
                intro z
                exact absurd (by rw [z]; decide) (nI_pos (n := a + i) (by omega))
            · rw [upd_at, if_neg (by decide), upd_at, if_pos rfl, i2, nI_add]
              rfl
        refine upd_ind (P := fun i d => ∀ M3, RC M3 (oCur (oRec s) (txtS s.1 (sg T n) n i)) → frC M1 M3 → (∀ k, 3 ≤ k → k ≤ 8 → M3 k = M2 k) → XW U G 53 [some (.inr 0), some (.inl (-1)), some (.inl (nI m)), some (.inl (nI i))] [] M3) m ?_ ?_ m 0 (by omega) M2 r2 f2 (fun _ _ _ => rfl)
        · intro M3 r3 f3 _
          refine x_iload_n hO dX3_addText_53 rfl rfl ?_
          refine x_iload_n hO dX3_addText_54 rfl rfl ?_
          refine x_icmp_ge (tgt := 113) hO dX3_addText_55 (by decide) (fun c3 => ?_) (fun c3 => ?_)
          · refine x_iload_n hO dX3_addText_113 rfl rfl ?_
            refine x_iret hO hR dX3_addText_114 rfl ?_
            exact ⟨rfl, r3, f1.tr f3⟩
          · exact absurd (Int32.le_refl _) c3
        · intro i d hd ih M3 r3 f3 e3
          have him : i < m := by omega
          obtain ⟨i1, i2⟩ := hcnt i (by omega)
          obtain ⟨j1, j2⟩ := rOK_end (ok i (Nat.zero_le _) him)
          have k12 := rK_12 T n (tB T n i)
          obtain ⟨t5, t6, t7, t8⟩ := dat2 i him
          refine x_iload_n hO dX3_addText_53 rfl rfl ?_
          refine x_iload_n hO dX3_addText_54 rfl rfl ?_
          refine x_icmp_ge (tgt := 113) hO dX3_addText_55 (by decide) (fun c3 => ?_) (fun c3 => ?_)
          · exact absurd c3 (nI_ge him (by omega))
          · refine x_iload_n hO dX3_addText_58 rfl rfl ?_
            refine x_iconst (v := nI 5) hO dX3_addText_59 rfl ?_
            refine x_icmp_ge (tgt := 113) hO dX3_addText_60 (by decide) (fun c4 => ?_) (fun c4 => ?_)
            · exact absurd c4 (nI_ge (by omega) (by decide))
            · have hi5 : i < 5 := by omega
              refine x_aload_n hO dX3_addText_63 rfl rfl ?_
              refine x_getR (T := TX3) (j := 0) hO dX3_addText_64 flX3_10 (by decide) rfl rfl (by decide) rfl rfl ?_
              refine x_aload_n hO dX3_addText_67 rfl rfl ?_
              refine x_getR (T := TX3) (j := 3) hO dX3_addText_68 flX3_29 (by decide) rfl rfl (by decide) rfl rfl ?_
              refine x_getNR (T := TX2) (j := 5) hO dX3_addText_71 flX3_116 (by decide) rfl rfl (by decide) rfl rfl ?_
              refine x_iload_n hO dX3_addText_74 rfl rfl ?_
              refine x_iald hO (by decide) rfl (by decide) (rfl) (hi5) dX3_addText_75 ?_
              refine x_aload_n hO dX3_addText_76 rfl rfl ?_
              refine x_getR (T := TX3) (j := 3) hO dX3_addText_77 flX3_29 (by decide) rfl rfl (by decide) rfl rfl ?_
              refine x_getNR (T := TX2) (j := 4) hO dX3_addText_80 flX3_119 (by decide) rfl rfl (by decide) rfl rfl ?_
              refine x_iload_n hO dX3_addText_83 rfl rfl ?_
              refine x_iald hO (by decide) rfl (by decide) (rfl) (hi5) dX3_addText_84 ?_
              refine x_aload_n hO dX3_addText_85 rfl rfl ?_
              refine x_getR (T := TX3) (j := 3) hO dX3_addText_86 flX3_29 (by decide) rfl rfl (by decide) rfl rfl ?_
              refine x_getNR (T := TX2) (j := 6) hO dX3_addText_89 flX3_122 (by decide) rfl rfl (by decide) rfl rfl ?_
              refine x_iload_n hO dX3_addText_92 rfl rfl ?_
              refine x_iald hO (by decide) rfl (by decide) (rfl) (hi5) dX3_addText_93 ?_
              refine x_aload_n hO dX3_addText_94 rfl rfl ?_
              refine x_getR (T := TX3) (j := 3) hO dX3_addText_95 flX3_29 (by decide) rfl rfl (by decide) rfl rfl ?_
              refine x_getNR (T := TX2) (j := 7) hO dX3_addText_98 flX3_125 (by decide) rfl rfl (by decide) rfl rfl ?_
              refine x_iload_n hO dX3_addText_101 rfl rfl ?_
              refine x_iald hO (by decide) rfl (by decide) (rfl) (hi5) dX3_addText_102 ?_
              rw [e3 5 (by decide) (by decide), e3 6 (by decide) (by decide), e3 7 (by decide) (by decide), e3 8 (by decide) (by decide), t5, t6, t7, t8]
              have hlt : aCnt (cA M3 16) < 32 := by rw [r3.rows]; show aCnt (txtS s.1 (sg T n) n i).1 < 32; omega
              have hrn : M3 16 8 ≠ -1 := by
                rw [show M3 16 8 = nI (a + i) from (r3.num (j := 1) (by decide)).trans i2]
                intro z
                exact absurd (by rw [z]; decide) (nI_pos (n := a + i) (by omega))
              refine x_callV hO (k_addSingle U M3 _ _ _ _ hlt hrn) dX3_addText_103 lkX3_55 fX1_addSingle vX1_addSingle (by decide) rfl rfl rfl rfl rfl (by decide) (Nat.le_of_ble_eq_true rfl) (fun r M4 h4 => ?_)
              obtain ⟨-, h4⟩ := h4
              obtain ⟨r4, f4⟩ := r3.mem h4
              rw [sc_9, sc_8, r3.rows, r3.nums] at r4
              rw [show M3 16 7 = (txtS s.1 (sg T n) n i).2 0 from r3.num (j := 0) (by decide), show M3 16 8 = (txtS s.1 (sg T n) n i).2 1 from r3.num (j := 1) (by decide), show M3 16 9 = (txtS s.1 (sg T n) n i).2 2 from r3.num (j := 2) (by decide)] at r4
              refine x_pop hO dX3_addText_106 ?_
              refine x_iinc hO dX3_addText_107 rfl (by first | exact xinc_n _ | rfl) rfl hN ?_
              refine x_goto (tgt := 53) hO dX3_addText_110 (by decide) ?_
              refine ih M4 ?_ (f3.tr f4) (fun k a b => by rw [h4.2.2 k (by omega), e3 k a b])
              show RC M4 (oCur (oRec s) (addS (txtS s.1 (sg T n) n i) (nI (eV (sg T n) (tB (sg T n) n i) 8)) (nI (eM (sg T n) (tB (sg T n) n i) 8)) (rRank (sg T n) n (tB (sg T n) n i)) (rAct (sg T n) n (tB (sg T n) n i))))
              have ok1 := ok i (Nat.zero_le _) him
              rw [tB_sg, eV_sg T (by omega), eM_sg T (by omega), rRank_sg T ok1, rAct_sg T ok1]
              exact r4
      · have q2 : 32 - aCnt s.1.1 < m := Nat.not_le.mp (fun z => c2 ((nI_leI (by omega) (by omega)).mpr z))
        rw [if_pos q2] at hR
        refine x_bipush (v := (-3 : Int32)) hO dX3_addText_37 rfl ?_
        refine x_iret hO hR dX3_addText_39 rfl ?_
        exact ⟨rfl, r1, f1⟩
    · exact absurd rfl c
  · rw [if_neg q] at hR ⊢
    refine x_icmp_eq (tgt := 18) hO dX3_addText_10 (by decide) (fun c => ?_) (fun c => ?_)
    · exact absurd c (nI_m1 hle2)
    · refine x_bipush (v := (-100 : Int32)) hO dX3_addText_13 rfl ?_
      change XW U G _ _ [.inl (-100)] M1
      refine x_iload_n hO dX3_addText_15 rfl rfl ?_
      refine x_isub hO dX3_addText_16 ?_
      refine x_iret hO hR dX3_addText_17 rfl ?_
      exact ⟨rfl, r1, f1⟩
end
section
theorem kc_undo (U : xP) (M : xM) {s : aO} (h : RC M s) : xMetI U mX3_undo [.inr 0] M (poC M (o_undo s)) := by
  refine xMetI.of (ty := .int) (L := [some (.inr 0)]) fX3_undo rfl rfl (Nat.le_of_ble_eq_true rfl) (fun G hN hO hR => ?_)
  have hN : G.2.2.2.2.2.2.2.2.2.2.1 = 1 := hN
  have hO : xOK U G RX3 cX3_undo 3 := hO
  obtain ⟨⟨A, g⟩, sn, hi, tt⟩ := s
  obtain ⟨h1, h2, ⟨o, c, h3, h4, h5, h6, h7⟩, n, h8, h9, h10⟩ := id h
  simp only at h1 h2 h7 h10
  refine x_aload_n hO dX3_undo_0 rfl rfl ?_
  refine x_getR (T := TX3) (j := 2) hO dX3_undo_1 flX3_22 (by decide) rfl rfl (by decide) rfl rfl ?_
  refine x_getNI (T := TX0) (j := 2) hO dX3_undo_4 flX3_128 (by decide) rfl rfl (by decide) rfl rfl ?_
  rw [h6]
  cases c with
  | zero =>
    simp only [List.range_zero, List.map_nil] at h7
    subst h7
    refine x_if_ne (tgt := 13) hO dX3_undo_7 (by decide) (fun c => ?_) (fun c => ?_)
    · exact absurd rfl c
    · refine x_bipush (v := (-4 : Int32)) hO dX3_undo_10 rfl ?_
      refine x_iret hO hR dX3_undo_12 rfl ?_
      exact ⟨rfl, h, frC.rf M⟩
  | succ c =>
    rw [range_map_succ, show c + 1 - 1 - 0 = c by omega] at h7
    have e2 : (List.range c).map (fun k => stC M (hb o (c + 1 - 1 - (k + 1)))) = (List.range c).map (fun k => stC M (hb o (c - 1 - k))) := List.map_congr_left (fun k _ => by rw [show c + 1 - 1 - (k + 1) = c - 1 - k by omega])
    rw [e2] at h7
    subst h7
    refine x_if_ne (tgt := 13) hO dX3_undo_7 (by decide) (fun c1 => ?_) (fun c1 => ?_)
    · refine x_aload_n hO dX3_undo_13 rfl rfl ?_
      refine x_getR (T := TX3) (j := 2) hO dX3_undo_14 flX3_22 (by decide) rfl rfl (by decide) rfl rfl ?_
      refine x_aload_n hO dX3_undo_17 rfl rfl ?_
      refine x_getR (T := TX3) (j := 0) hO dX3_undo_18 flX3_10 (by decide) rfl rfl (by decide) rfl rfl ?_
      refine x_callVv hO (k_takeLatest U M h5 h6 h3 (by omega)) dX3_undo_21 lkX3_131 fX0_takeLatestInto vX0_takeLatestInto (by decide) rfl rfl rfl rfl rfl (by decide) (Nat.le_of_ble_eq_true rfl) (fun M1 h11 => ?_)
      obtain ⟨a1, a2, a3, a4, a5⟩ := h11
      refine x_aload_n hO dX3_undo_24 rfl rfl ?_
      refine x_getR (T := TX3) (j := 2) hO dX3_undo_25 flX3_22 (by decide) rfl rfl (by decide) rfl rfl ?_
      refine x_getNI (T := TX0) (j := 2) hO dX3_undo_28 flX3_128 (by decide) rfl rfl (by decide) rfl rfl ?_
      rw [a2]
      refine x_iret hO hR dX3_undo_31 rfl ?_
      have eb : ∀ i, stC M1 (hb o i) = stC M (hb o i) := fun i => stC_fr (fun k a _ => a5 k (by unfold hb at a; omega) (by unfold hb at a; omega))
      refine ⟨by simp [o_undo], ⟨?_, ?_, ⟨o, c, h3, by omega, a1, a2, ?_⟩, n, h8, by rw [a5 3 (by decide) (by decide)]; exact h9, by rw [a5 4 (by decide) (by decide)]; exact h10⟩, fun k a b => a5 k (by omega) (by omega)⟩
      · exact stC_eq a3 a4
      · rw [a5 0 (by decide) (by decide), stC_fr (M := M) (M' := M1) (b := 24) (fun k _ _ => a5 k (by omega) (by omega))]
        exact h2
      · simp only [eb]
        rfl
    · exact absurd c1 (fun z => by have := (nI_eq (b := 0) (by omega) (by decide)).mp z; omega)
theorem kc_keep (U : xP) (M : xM) {s : aO} (h : RC M s) : xMetI U mX3_keep [.inr 0] M (poC M (o_keep s)) := by
  refine xMetI.of (ty := .int) (L := [some (.inr 0)]) fX3_keep rfl rfl (Nat.le_of_ble_eq_true rfl) (fun G hN hO hR => ?_)
  have hN : G.2.2.2.2.2.2.2.2.2.2.1 = 1 := hN
  have hO : xOK U G RX3 cX3_keep 3 := hO
  obtain ⟨h1, h2, ⟨o, c, h3, h4, h5, h6, h7⟩, n, h8, h9, h10⟩ := id h
  refine x_aload_n hO dX3_keep_0 rfl rfl ?_
  refine x_getR (T := TX3) (j := 0) hO dX3_keep_1 flX3_10 (by decide) rfl rfl (by decide) rfl rfl ?_
  refine x_aload_n hO dX3_keep_4 rfl rfl ?_
  refine x_getR (T := TX3) (j := 1) hO dX3_keep_5 flX3_16 (by decide) rfl rfl (by decide) rfl rfl ?_
  refine x_callSv hO (k_copyTo U M (b := 24) (Or.inl rfl)) dX3_keep_8 lkX3_134 fX3_copyState sX3_copyState rfl rfl (by decide) (Nat.le_of_ble_eq_true rfl) (fun M1 h11 => ?_)
  obtain ⟨a1, a2, a3⟩ := h11
  refine x_aload_n hO dX3_keep_11 rfl rfl ?_
  refine x_iconst (v := nI 1) hO dX3_keep_12 rfl ?_
  refine x_put (T := TX3) (j := 4) (ty := .boolean) hO dX3_keep_13 flX3_33 (by decide) rfl rfl (by decide) rfl rfl rfl (by decide +kernel) rfl rfl ?_
  have e : ∀ k, k ≠ 0 → (k < 24 ∨ 32 ≤ k) → xset M1 0 4 (nI 1) k = M k := fun k k0 hk => by rw [xset_ne _ _ _ k0, a3 k hk]
  have e24 : ∀ k, k ≠ 0 → xset M1 0 4 (nI 1) k = M1 k := fun k k0 => xset_ne _ _ _ k0
  have e04 : xset M1 0 4 (nI 1) 0 4 = 1 := by rw [xset_at, if_pos rfl, if_pos rfl]; rfl
  generalize xset M1 0 4 (nI 1) = M2 at *
  have eb : ∀ i, stC M2 (hb o i) = stC M (hb o i) := fun i => stC_fr (fun k a _ => e k (by unfold hb at a; omega) (by unfold hb at a; omega))
  have e16 : stC M2 16 = stC M 16 := stC_fr (fun k a b => e k (by omega) (by omega))
  have e2 : stC M2 24 = stC M 16 := by
    rw [stC_fr (M := M1) (M' := M2) (b := 24) (fun k _ _ => e24 k (by omega))]
    exact stC_eq a1 a2
  have hA : cA M2 16 = s.1.1 := by rw [← h.rows]; exact congrArg Prod.fst e16
  refine x_aload_n hO dX3_keep_16 rfl rfl ?_
  refine x_getR (T := TX3) (j := 0) hO dX3_keep_17 flX3_10 (by decide) rfl rfl (by decide) rfl rfl ?_
  refine x_callV1 hO (k_entries U M2) dX3_keep_20 lkX3_85 fX1_entries vX1_entries (by decide) rfl rfl rfl rfl rfl (by decide) (Nat.le_of_ble_eq_true rfl) ?_
  rw [hA]
  refine x_iret hO hR dX3_keep_23 rfl ?_
  refine ⟨rfl, ⟨by rw [e16]; exact h1, Or.inr ⟨e04, ?_⟩, ⟨o, c, h3, h4, by rw [e 1 (by decide) (by decide)]; exact h5, by rw [e 1 (by decide) (by decide)]; exact h6, ?_⟩, n, h8, by rw [e 3 (by decide) (by decide)]; exact h9, by rw [e 4 (by decide) (by decide)]; exact h10⟩, fun k a b => e k (by omega) (by omega)⟩
  · rw [e2, h1]
    rfl
  · simp only [eb]
    exact h7
theorem kc_restore (U : xP) (M : xM) {s : aO} (h : RC M s) : xMetI U mX3_restore [.inr 0] M (poC M (o_restore s)) := by
  refine xMetI.of (ty := .int) (L := [some (.inr 0)]) fX3_restore rfl rfl (Nat.le_of_ble_eq_true rfl) (fun G hN hO hR => ?_)
  have hN : G.2.2.2.2.2.2.2.2.2.2.1 = 1 := hN
  have hO : xOK U G RX3 cX3_restore 3 := hO
  unfold o_restore at hR
  refine x_aload_n hO dX3_restore_0 rfl rfl ?_
  refine x_getI (T := TX3) (j := 4) hO dX3_restore_1 flX3_33 (by decide) rfl rfl (by decide) rfl rfl ?_
  rcases h.2.1 with ⟨f, hs⟩ | ⟨f, hs⟩
  · rw [f]
    simp only [hs] at hR
    refine x_if_ne (tgt := 10) hO dX3_restore_4 (by decide) (fun c => ?_) (fun c => ?_)
    · exact absurd rfl c
    · refine x_bipush (v := (-4 : Int32)) hO dX3_restore_7 rfl ?_
      refine x_iret hO hR dX3_restore_9 rfl ?_
      exact ⟨rfl, h, frC.rf M⟩
  · rw [f]
    simp only [hs] at hR
    refine x_if_ne (tgt := 10) hO dX3_restore_4 (by decide) (fun c => ?_) (fun c => ?_)
    · refine x_aload_n hO dX3_restore_10 rfl rfl ?_
      refine x_getR (T := TX3) (j := 2) hO dX3_restore_11 flX3_22 (by decide) rfl rfl (by decide) rfl rfl ?_
      refine x_aload_n hO dX3_restore_14 rfl rfl ?_
      refine x_getR (T := TX3) (j := 0) hO dX3_restore_15 flX3_10 (by decide) rfl rfl (by decide) rfl rfl ?_
      refine x_callVv hO (k_rec U M h) dX3_restore_18 lkX3_51 fX0_record vX0_record (by decide) rfl rfl rfl rfl rfl (by decide) (Nat.le_of_ble_eq_true rfl) (fun M1 h1 => ?_)
      obtain ⟨r1, f1, -, -, -⟩ := h1
      obtain ⟨b1, b2, ⟨o, c', b3, b4, b5, b6, b7⟩, n, b8, b9, b10⟩ := id r1
      have e24 : stC M1 24 = stC M 24 := by
        rcases b2 with ⟨z1, z2⟩ | ⟨z1, z2⟩
        · have : s.2.1 = none := z2
          rw [hs] at this
          cases this
        · have : s.2.1 = some (stC M1 24) := z2
          rw [hs] at this
          exact (Option.some.inj this).symm
      refine x_aload_n hO dX3_restore_21 rfl rfl ?_
      refine x_getR (T := TX3) (j := 1) hO dX3_restore_22 flX3_16 (by decide) rfl rfl (by decide) rfl rfl ?_
      refine x_aload_n hO dX3_restore_25 rfl rfl ?_
      refine x_getR (T := TX3) (j := 0) hO dX3_restore_26 flX3_10 (by decide) rfl rfl (by decide) rfl rfl ?_
      refine x_callSv hO (k_copyOf U M1 (b := 24) (Or.inl rfl)) dX3_restore_29 lkX3_134 fX3_copyState sX3_copyState rfl rfl (by decide) (Nat.le_of_ble_eq_true rfl) (fun M2 h2 => ?_)
      obtain ⟨a1, a2, a3⟩ := h2
      have e16 : stC M2 16 = stC M 24 := (stC_eq a1 a2).trans e24
      have eb : ∀ i, stC M2 (hb o i) = stC M1 (hb o i) := fun i => stC_fr (fun k a _ => a3 k (by unfold hb at a; omega))
      have hA : cA M2 16 = (stC M 24).1 := congrArg Prod.fst e16
      refine x_aload_n hO dX3_restore_32 rfl rfl ?_
      refine x_getR (T := TX3) (j := 0) hO dX3_restore_33 flX3_10 (by decide) rfl rfl (by decide) rfl rfl ?_
      refine x_callV1 hO (k_entries U M2) dX3_restore_36 lkX3_85 fX1_entries vX1_entries (by decide) rfl rfl rfl rfl rfl (by decide) (Nat.le_of_ble_eq_true rfl) ?_
      rw [hA]
      refine x_iret hO hR dX3_restore_39 rfl ?_
      refine ⟨rfl, ⟨e16, ?_, ⟨o, c', b3, b4, by rw [a3 1 (by omega)]; exact b5, by rw [a3 1 (by omega)]; exact b6, ?_⟩, n, b8, by rw [a3 3 (by omega)]; exact b9, by rw [a3 4 (by omega)]; exact b10⟩, f1.tr (fun k a b => a3 k (by omega))⟩
      · rw [a3 0 (by omega), stC_fr (M := M1) (M' := M2) (b := 24) (fun k _ _ => a3 k (by omega))]
        exact b2
      · simp only [eb]
        exact b7
    · exact absurd c (by decide)
/-! ===== queries ===== -/
/-- what a query answers -/
def quC (M : xM) (v : Int32) : Int32 → xM → Prop := fun r M' => r = v ∧ M' = M
theorem q_tell {M : xM} {s : aO} (h : RC M s) {w : Nat} (hw : w < 6) (x : Int32) : (if ixB x 32 then (if aoc (cA M 16) x.toNatClampNeg then M (16 + 1 + w) x.toNatClampNeg else -4) else -1) = q_in s.1.1 w x := by
  unfold q_in
  rw [h.rows]
  split
  · split
    · rename_i q
      rw [← h.rows] at q ⊢
      exact cA_in q hw
    · rfl
  · rfl
theorem kc_ruleIn (U : xP) (M : xM) {s : aO} (h : RC M s) (x : Int32) : xMetI U mX3_ruleIn [.inr 0, .inl x] M (quC M (q_in s.1.1 0 x)) := by
  refine xMetI.of (ty := .int) (L := [some (.inr 0), some (.inl x)]) fX3_ruleIn rfl rfl (Nat.le_of_ble_eq_true rfl) (fun G hN hO hR => ?_)
  have hN : G.2.2.2.2.2.2.2.2.2.2.1 = 2 := hN
  have hO : xOK U G RX3 cX3_ruleIn 2 := hO
  rw [← q_tell h (w := 0) (by decide) x] at hR
  refine x_aload_n hO dX3_ruleIn_0 rfl rfl ?_
  refine x_getR (T := TX3) (j := 0) hO dX3_ruleIn_1 flX3_10 (by decide) rfl rfl (by decide) rfl rfl ?_
  refine x_aload_n hO dX3_ruleIn_4 rfl rfl ?_
  refine x_getR (T := TX3) (j := 0) hO dX3_ruleIn_5 flX3_10 (by decide) rfl rfl (by decide) rfl rfl ?_
  refine x_getNR (T := TX1) (j := 0) hO dX3_ruleIn_8 flX3_138 (by decide) rfl rfl (by decide) rfl rfl ?_
  refine x_iload_n hO dX3_ruleIn_11 rfl rfl ?_
  refine x_callV1 hO (k_told U M (k := 17) (by decide) rfl x) dX3_ruleIn_12 lkX3_99 fX1_told vX1_told (by decide) rfl rfl rfl rfl rfl (by decide) (Nat.le_of_ble_eq_true rfl) ?_
  refine x_iret hO hR dX3_ruleIn_15 rfl ?_
  exact ⟨rfl, rfl⟩
theorem kc_maskIn (U : xP) (M : xM) {s : aO} (h : RC M s) (x : Int32) : xMetI U mX3_maskIn [.inr 0, .inl x] M (quC M (q_in s.1.1 2 x)) := by
  refine xMetI.of (ty := .int) (L := [some (.inr 0), some (.inl x)]) fX3_maskIn rfl rfl (Nat.le_of_ble_eq_true rfl) (fun G hN hO hR => ?_)
  have hN : G.2.2.2.2.2.2.2.2.2.2.1 = 2 := hN
  have hO : xOK U G RX3 cX3_maskIn 2 := hO
  rw [← q_tell h (w := 2) (by decide) x] at hR
  refine x_aload_n hO dX3_maskIn_0 rfl rfl ?_
  refine x_getR (T := TX3) (j := 0) hO dX3_maskIn_1 flX3_10 (by decide) rfl rfl (by decide) rfl rfl ?_
  refine x_aload_n hO dX3_maskIn_4 rfl rfl ?_
  refine x_getR (T := TX3) (j := 0) hO dX3_maskIn_5 flX3_10 (by decide) rfl rfl (by decide) rfl rfl ?_
  refine x_getNR (T := TX1) (j := 2) hO dX3_maskIn_8 flX3_141 (by decide) rfl rfl (by decide) rfl rfl ?_
  refine x_iload_n hO dX3_maskIn_11 rfl rfl ?_
  refine x_callV1 hO (k_told U M (k := 19) (by decide) rfl x) dX3_maskIn_12 lkX3_99 fX1_told vX1_told (by decide) rfl rfl rfl rfl rfl (by decide) (Nat.le_of_ble_eq_true rfl) ?_
  refine x_iret hO hR dX3_maskIn_15 rfl ?_
  exact ⟨rfl, rfl⟩
theorem kc_valueIn (U : xP) (M : xM) {s : aO} (h : RC M s) (x : Int32) : xMetI U mX3_valueIn [.inr 0, .inl x] M (quC M (q_in s.1.1 3 x)) := by
  refine xMetI.of (ty := .int) (L := [some (.inr 0), some (.inl x)]) fX3_valueIn rfl rfl (Nat.le_of_ble_eq_true rfl) (fun G hN hO hR => ?_)
  have hN : G.2.2.2.2.2.2.2.2.2.2.1 = 2 := hN
  have hO : xOK U G RX3 cX3_valueIn 2 := hO
  rw [← q_tell h (w := 3) (by decide) x] at hR
  refine x_aload_n hO dX3_valueIn_0 rfl rfl ?_
  refine x_getR (T := TX3) (j := 0) hO dX3_valueIn_1 flX3_10 (by decide) rfl rfl (by decide) rfl rfl ?_
  refine x_aload_n hO dX3_valueIn_4 rfl rfl ?_
  refine x_getR (T := TX3) (j := 0) hO dX3_valueIn_5 flX3_10 (by decide) rfl rfl (by decide) rfl rfl ?_
  refine x_getNR (T := TX1) (j := 3) hO dX3_valueIn_8 flX3_144 (by decide) rfl rfl (by decide) rfl rfl ?_
  refine x_iload_n hO dX3_valueIn_11 rfl rfl ?_
  refine x_callV1 hO (k_told U M (k := 20) (by decide) rfl x) dX3_valueIn_12 lkX3_99 fX1_told vX1_told (by decide) rfl rfl rfl rfl rfl (by decide) (Nat.le_of_ble_eq_true rfl) ?_
  refine x_iret hO hR dX3_valueIn_15 rfl ?_
  exact ⟨rfl, rfl⟩
theorem kc_sortIn (U : xP) (M : xM) {s : aO} (h : RC M s) (x : Int32) : xMetI U mX3_sortIn [.inr 0, .inl x] M (quC M (q_sort s.1.1 x)) := by
  refine xMetI.of (ty := .int) (L := [some (.inr 0), some (.inl x), none]) fX3_sortIn rfl rfl (Nat.le_of_ble_eq_true rfl) (fun G hN hO hR => ?_)
  have hN : G.2.2.2.2.2.2.2.2.2.2.1 = 3 := hN
  have hO : xOK U G RX3 cX3_sortIn 2 := hO
  unfold q_sort at hR
  rw [← q_tell h (w := 2) (by decide) x] at hR
  refine x_aload_n hO dX3_sortIn_0 rfl rfl ?_
  refine x_getR (T := TX3) (j := 0) hO dX3_sortIn_1 flX3_10 (by decide) rfl rfl (by decide) rfl rfl ?_
  refine x_aload_n hO dX3_sortIn_4 rfl rfl ?_
  refine x_getR (T := TX3) (j := 0) hO dX3_sortIn_5 flX3_10 (by decide) rfl rfl (by decide) rfl rfl ?_
  refine x_getNR (T := TX1) (j := 2) hO dX3_sortIn_8 flX3_141 (by decide) rfl rfl (by decide) rfl rfl ?_
  refine x_iload_n hO dX3_sortIn_11 rfl rfl ?_
  refine x_callV1 hO (k_told U M (k := 19) (by decide) rfl x) dX3_sortIn_12 lkX3_99 fX1_told vX1_told (by decide) rfl rfl rfl rfl rfl (by decide) (Nat.le_of_ble_eq_true rfl) ?_
  generalize (if ixB x 32 then (if aoc (cA M 16) x.toNatClampNeg then M 19 x.toNatClampNeg else -4) else -1) = v at *
  have hR : xRI U G .int (quC M (if v < 0 then v else aSo v)) := hR
  refine x_istore_n (n := 3) hO dX3_sortIn_15 rfl rfl (by decide) hN ?_
  refine x_iload_n hO dX3_sortIn_16 rfl rfl ?_
  refine x_if_ge (tgt := 24) hO dX3_sortIn_17 (by decide) (fun c => ?_) (fun c => ?_)
  · rw [if_neg (Int32.not_lt.mpr c)] at hR
    refine x_iload_n hO dX3_sortIn_24 rfl rfl ?_
    refine x_callS1 hO (k_sortOfMask U M v) dX3_sortIn_25 lkX3_147 fX3_sortOfMask sX3_sortOfMask rfl rfl (by decide) (Nat.le_of_ble_eq_true rfl) ?_
    refine x_iret hO hR dX3_sortIn_28 rfl ?_
    exact ⟨rfl, rfl⟩
  · rw [if_pos (Int32.not_le.mp c)] at hR
    refine x_iload_n hO dX3_sortIn_20 rfl rfl ?_
    refine x_goto (tgt := 28) hO dX3_sortIn_21 (by decide) ?_
    refine x_iret hO hR dX3_sortIn_28 rfl ?_
    exact ⟨rfl, rfl⟩
theorem kc_slotOf (U : xP) (M : xM) {s : aO} (h : RC M s) (x y : Int32) : xMetI U mX3_slotOf [.inr 0, .inl x, .inl y] M (quC M (q_slotOf s.1.1 x y)) := by
  refine xMetI.of (ty := .int) (L := [some (.inr 0), some (.inl x), some (.inl y), none]) fX3_slotOf rfl rfl (Nat.le_of_ble_eq_true rfl) (fun G hN hO hR => ?_)
  have hN : G.2.2.2.2.2.2.2.2.2.2.1 = 4 := hN
  have hO : xOK U G RX3 cX3_slotOf 2 := hO
  unfold q_slotOf at hR
  refine x_aload_n hO dX3_slotOf_0 rfl rfl ?_
  refine x_getR (T := TX3) (j := 0) hO dX3_slotOf_1 flX3_10 (by decide) rfl rfl (by decide) rfl rfl ?_
  refine x_iload_n hO dX3_slotOf_4 rfl rfl ?_
  refine x_iload_n hO dX3_slotOf_5 rfl rfl ?_
  refine x_callV1 hO (k_slotHolding U M x y) dX3_slotOf_6 lkX3_150 fX1_slotHolding vX1_slotHolding (by decide) rfl rfl rfl rfl rfl (by decide) (Nat.le_of_ble_eq_true rfl) ?_
  rw [h.rows]
  generalize aN (nF (pPart s.1.1 x y) 0 32) = v at *
  refine x_istore_n (n := 4) hO dX3_slotOf_9 rfl rfl (by decide) hN ?_
  refine x_iload_n hO dX3_slotOf_10 rfl rfl ?_
  refine x_iconst (v := (-1 : Int32)) hO dX3_slotOf_11 rfl ?_
  refine x_icmp_ne (tgt := 19) hO dX3_slotOf_12 (by decide) (fun c => ?_) (fun c => ?_)
  · refine x_iload_n hO dX3_slotOf_19 rfl rfl ?_
    refine x_iret hO hR dX3_slotOf_20 rfl ?_
    exact ⟨rfl, rfl⟩
  · subst c
    refine x_iconst (v := (-1 : Int32)) hO dX3_slotOf_15 rfl ?_
    refine x_goto (tgt := 20) hO dX3_slotOf_16 (by decide) ?_
    refine x_iret hO hR dX3_slotOf_20 rfl ?_
    exact ⟨rfl, rfl⟩
theorem kc_parts (U : xP) (M : xM) {s : aO} (h : RC M s) (x : Int32) : xMetI U mX3_parts [.inr 0, .inl x] M (quC M (q_parts s.1.1 x)) := by
  refine xMetI.of (ty := .int) (L := [some (.inr 0), some (.inl x), none]) fX3_parts rfl rfl (Nat.le_of_ble_eq_true rfl) (fun G hN hO hR => ?_)
  have hN : G.2.2.2.2.2.2.2.2.2.2.1 = 3 := hN
  have hO : xOK U G RX3 cX3_parts 2 := hO
  unfold q_parts at hR
  have hle := nC_le (pRule s.1.1 x) 32
  refine x_aload_n hO dX3_parts_0 rfl rfl ?_
  refine x_getR (T := TX3) (j := 0) hO dX3_parts_1 flX3_10 (by decide) rfl rfl (by decide) rfl rfl ?_
  refine x_iload_n hO dX3_parts_4 rfl rfl ?_
  refine x_callV1 hO (k_entriesOf U M x) dX3_parts_5 lkX3_70 fX1_entriesOf vX1_entriesOf (by decide) rfl rfl rfl rfl rfl (by decide) (Nat.le_of_ble_eq_true rfl) ?_
  rw [h.rows]
  generalize nC (pRule s.1.1 x) 32 = n at *
  refine x_istore_n (n := 3) hO dX3_parts_8 rfl rfl (by decide) hN ?_
  refine x_iload_n hO dX3_parts_9 rfl rfl ?_
  refine x_if_ne (tgt := 17) hO dX3_parts_10 (by decide) (fun c => ?_) (fun c => ?_)
  · rw [if_neg (fun z => c (by rw [z]; rfl))] at hR
    refine x_iload_n hO dX3_parts_17 rfl rfl ?_
    refine x_iret hO hR dX3_parts_18 rfl ?_
    exact ⟨rfl, rfl⟩
  · rw [if_pos ((nI_eq (b := 0) (by omega) (by decide)).mp c)] at hR
    refine x_iconst (v := (-1 : Int32)) hO dX3_parts_13 rfl ?_
    refine x_goto (tgt := 18) hO dX3_parts_14 (by decide) ?_
    refine x_iret hO hR dX3_parts_18 rfl ?_
    exact ⟨rfl, rfl⟩
theorem pPart_oc {A : aR} {x y : Int32} (h : nF (pPart A x y) 0 32 < 32) : aoc A (nF (pPart A x y) 0 32) = true ∧ A (nF (pPart A x y) 0 32) 0 = x ∧ A (nF (pPart A x y) 0 32) 1 = y := by
  have := nF_yes (P := pPart A x y) 32 0 (by omega)
  simp only [pPart, Bool.and_eq_true, beq_iff_eq] at this
  exact ⟨this.1, this.2.1, this.2.2⟩
theorem q_ofs {M : xM} {s : aO} (h : RC M s) {k w : Nat} (hk : k = 17 + w) (hw : w < 6 ∨ w = 6) (x : Int32) : (if ixB (aN (nF (pPart s.1.1 x 0) 0 32)) 32 then (if aoc (cA M 16) (aN (nF (pPart s.1.1 x 0) 0 32)).toNatClampNeg then M k (aN (nF (pPart s.1.1 x 0) 0 32)).toNatClampNeg else -4) else -1) = q_of s.1.1 w x := by
  unfold q_of
  by_cases q : nF (pPart s.1.1 x 0) 0 32 < 32
  · obtain ⟨ho, -, h1⟩ := pPart_oc q
    rw [if_pos q, aN_lt q, ixB_n q (by decide), nI_clamp (by omega)]
    rw [h.rows, if_pos rfl, if_pos ho]
    rw [← h.rows] at *
    subst hk
    rcases hw with hw | rfl
    · exact cA_in ho hw
    · exact cA_hit ho h1
  · rw [if_neg q, aN_ge q]
    rfl
theorem kc_rank (U : xP) (M : xM) {s : aO} (h : RC M s) (x : Int32) : xMetI U mX3_rank [.inr 0, .inl x] M (quC M (q_of s.1.1 4 x)) := by
  refine xMetI.of (ty := .int) (L := [some (.inr 0), some (.inl x)]) fX3_rank rfl rfl (Nat.le_of_ble_eq_true rfl) (fun G hN hO hR => ?_)
  have hN : G.2.2.2.2.2.2.2.2.2.2.1 = 2 := hN
  have hO : xOK U G RX3 cX3_rank 2 := hO
  rw [← q_ofs h (k := 21) rfl (by decide) x] at hR
  refine x_aload_n hO dX3_rank_0 rfl rfl ?_
  refine x_getR (T := TX3) (j := 0) hO dX3_rank_1 flX3_10 (by decide) rfl rfl (by decide) rfl rfl ?_
  refine x_aload_n hO dX3_rank_4 rfl rfl ?_
  refine x_getR (T := TX3) (j := 0) hO dX3_rank_5 flX3_10 (by decide) rfl rfl (by decide) rfl rfl ?_
  refine x_getNR (T := TX1) (j := 4) hO dX3_rank_8 flX3_153 (by decide) rfl rfl (by decide) rfl rfl ?_
  refine x_aload_n hO dX3_rank_11 rfl rfl ?_
  refine x_getR (T := TX3) (j := 0) hO dX3_rank_12 flX3_10 (by decide) rfl rfl (by decide) rfl rfl ?_
  refine x_iload_n hO dX3_rank_15 rfl rfl ?_
  refine x_iconst (v := nI 0) hO dX3_rank_16 rfl ?_
  refine x_callV1 hO (k_slotHolding U M x (nI 0)) dX3_rank_17 lkX3_150 fX1_slotHolding vX1_slotHolding (by decide) rfl rfl rfl rfl rfl (by decide) (Nat.le_of_ble_eq_true rfl) ?_
  rw [h.rows] at *
  refine x_callV1 hO (k_told U M (k := 21) (by decide) rfl _) dX3_rank_20 lkX3_99 fX1_told vX1_told (by decide) rfl rfl rfl rfl rfl (by decide) (Nat.le_of_ble_eq_true rfl) ?_
  rw [h.rows]
  refine x_iret hO hR dX3_rank_23 rfl ?_
  exact ⟨rfl, rfl⟩
theorem kc_action (U : xP) (M : xM) {s : aO} (h : RC M s) (x : Int32) : xMetI U mX3_action [.inr 0, .inl x] M (quC M (q_of s.1.1 5 x)) := by
  refine xMetI.of (ty := .int) (L := [some (.inr 0), some (.inl x)]) fX3_action rfl rfl (Nat.le_of_ble_eq_true rfl) (fun G hN hO hR => ?_)
  have hN : G.2.2.2.2.2.2.2.2.2.2.1 = 2 := hN
  have hO : xOK U G RX3 cX3_action 2 := hO
  rw [← q_ofs h (k := 22) rfl (by decide) x] at hR
  refine x_aload_n hO dX3_action_0 rfl rfl ?_
  refine x_getR (T := TX3) (j := 0) hO dX3_action_1 flX3_10 (by decide) rfl rfl (by decide) rfl rfl ?_
  refine x_aload_n hO dX3_action_4 rfl rfl ?_
  refine x_getR (T := TX3) (j := 0) hO dX3_action_5 flX3_10 (by decide) rfl rfl (by decide) rfl rfl ?_
  refine x_getNR (T := TX1) (j := 5) hO dX3_action_8 flX3_95 (by decide) rfl rfl (by decide) rfl rfl ?_
  refine x_aload_n hO dX3_action_11 rfl rfl ?_
  refine x_getR (T := TX3) (j := 0) hO dX3_action_12 flX3_10 (by decide) rfl rfl (by decide) rfl rfl ?_
  refine x_iload_n hO dX3_action_15 rfl rfl ?_
  refine x_iconst (v := nI 0) hO dX3_action_16 rfl ?_
  refine x_callV1 hO (k_slotHolding U M x (nI 0)) dX3_action_17 lkX3_150 fX1_slotHolding vX1_slotHolding (by decide) rfl rfl rfl rfl rfl (by decide) (Nat.le_of_ble_eq_true rfl) ?_
  rw [h.rows] at *
  refine x_callV1 hO (k_told U M (k := 22) (by decide) rfl _) dX3_action_20 lkX3_99 fX1_told vX1_told (by decide) rfl rfl rfl rfl rfl (by decide) (Nat.le_of_ble_eq_true rfl) ?_
  rw [h.rows]
  refine x_iret hO hR dX3_action_23 rfl ?_
  exact ⟨rfl, rfl⟩
theorem kc_hits (U : xP) (M : xM) {s : aO} (h : RC M s) (x : Int32) : xMetI U mX3_hits [.inr 0, .inl x] M (quC M (q_of s.1.1 6 x)) := by
  refine xMetI.of (ty := .int) (L := [some (.inr 0), some (.inl x)]) fX3_hits rfl rfl (Nat.le_of_ble_eq_true rfl) (fun G hN hO hR => ?_)
  have hN : G.2.2.2.2.2.2.2.2.2.2.1 = 2 := hN
  have hO : xOK U G RX3 cX3_hits 2 := hO
  rw [← q_ofs h (k := 23) rfl (by decide) x] at hR
  refine x_aload_n hO dX3_hits_0 rfl rfl ?_
  refine x_getR (T := TX3) (j := 0) hO dX3_hits_1 flX3_10 (by decide) rfl rfl (by decide) rfl rfl ?_
  refine x_aload_n hO dX3_hits_4 rfl rfl ?_
  refine x_getR (T := TX3) (j := 0) hO dX3_hits_5 flX3_10 (by decide) rfl rfl (by decide) rfl rfl ?_
  refine x_getNR (T := TX1) (j := 6) hO dX3_hits_8 flX3_156 (by decide) rfl rfl (by decide) rfl rfl ?_
  refine x_aload_n hO dX3_hits_11 rfl rfl ?_
  refine x_getR (T := TX3) (j := 0) hO dX3_hits_12 flX3_10 (by decide) rfl rfl (by decide) rfl rfl ?_
  refine x_iload_n hO dX3_hits_15 rfl rfl ?_
  refine x_iconst (v := nI 0) hO dX3_hits_16 rfl ?_
  refine x_callV1 hO (k_slotHolding U M x (nI 0)) dX3_hits_17 lkX3_150 fX1_slotHolding vX1_slotHolding (by decide) rfl rfl rfl rfl rfl (by decide) (Nat.le_of_ble_eq_true rfl) ?_
  rw [h.rows] at *
  refine x_callV1 hO (k_told U M (k := 23) (by decide) rfl _) dX3_hits_20 lkX3_99 fX1_told vX1_told (by decide) rfl rfl rfl rfl rfl (by decide) (Nat.le_of_ble_eq_true rfl) ?_
  rw [h.rows]
  refine x_iret hO hR dX3_hits_23 rfl ?_
  exact ⟨rfl, rfl⟩
theorem kc_find (U : xP) (M : xM) {s : aO} (h : RC M s) (x : Int32) : xMetI U mX3_find [.inr 0, .inl x] M (quC M (q_find s.1.1 x)) := by
  refine xMetI.of (ty := .int) (L := [some (.inr 0), some (.inl x), none]) fX3_find rfl rfl (Nat.le_of_ble_eq_true rfl) (fun G hN hO hR => ?_)
  have hN : G.2.2.2.2.2.2.2.2.2.2.1 = 3 := hN
  have hO : xOK U G RX3 cX3_find 2 := hO
  unfold q_find at hR
  refine x_iload_n hO dX3_find_0 rfl rfl ?_
  refine x_callS1 hO (k_isKey U M x) dX3_find_1 lkX3_37 fX3_isKey sX3_isKey rfl rfl (by decide) (Nat.le_of_ble_eq_true rfl) ?_
  refine x_if_ne (tgt := 10) hO dX3_find_4 (by decide) (fun c => ?_) (fun c => ?_)
  · rw [bI_1 c, if_pos rfl] at hR
    refine x_aload_n hO dX3_find_10 rfl rfl ?_
    refine x_getR (T := TX3) (j := 0) hO dX3_find_11 flX3_10 (by decide) rfl rfl (by decide) rfl rfl ?_
    refine x_iload_n hO dX3_find_14 rfl rfl ?_
    refine x_callV1 hO (k_slotFoundBy U M x) dX3_find_15 lkX3_88 fX1_slotFoundBy vX1_slotFoundBy (by decide) rfl rfl rfl rfl rfl (by decide) (Nat.le_of_ble_eq_true rfl) ?_
    rw [h.rows]
    refine x_istore_n (n := 3) hO dX3_find_18 rfl rfl (by decide) hN ?_
    refine x_iload_n hO dX3_find_19 rfl rfl ?_
    refine x_iconst (v := (-1 : Int32)) hO dX3_find_20 rfl ?_
    refine x_icmp_ne (tgt := 29) hO dX3_find_21 (by decide) (fun c2 => ?_) (fun c2 => ?_)
    · have q : aFd s.1.1 x < 32 := by
        rcases Nat.lt_or_ge (aFd s.1.1 x) 32 with q | q
        · exact q
        · exact absurd (aN_ge (by omega)) c2
      have ho := aFd_oc q
      rw [if_pos q] at hR
      rw [aN_lt q]
      generalize aFd s.1.1 x = f at *
      refine x_aload_n hO dX3_find_29 rfl rfl ?_
      refine x_getR (T := TX3) (j := 0) hO dX3_find_30 flX3_10 (by decide) rfl rfl (by decide) rfl rfl ?_
      refine x_aload_n hO dX3_find_33 rfl rfl ?_
      refine x_getR (T := TX3) (j := 0) hO dX3_find_34 flX3_10 (by decide) rfl rfl (by decide) rfl rfl ?_
      refine x_getNR (T := TX1) (j := 0) hO dX3_find_37 flX3_138 (by decide) rfl rfl (by decide) rfl rfl ?_
      refine x_iload_n hO dX3_find_40 rfl rfl ?_
      refine x_callV1 hO (k_told U M (k := 17) (by decide) rfl (nI f)) dX3_find_41 lkX3_99 fX1_told vX1_told (by decide) rfl rfl rfl rfl rfl (by decide) (Nat.le_of_ble_eq_true rfl) ?_
      have e : M 17 f = s.1.1 f 0 := by
        rw [← h.rows] at ho ⊢
        exact cA_in (w := 0) ho (by decide)
      rw [ixB_n q (by decide), nI_clamp (by omega), h.rows, ho, if_pos rfl, if_pos rfl, e]
      refine x_iret hO hR dX3_find_44 rfl ?_
      exact ⟨rfl, rfl⟩
    · rw [if_neg (aN_m1.mp c2)] at hR
      refine x_bipush (v := (-4 : Int32)) hO dX3_find_24 rfl ?_
      refine x_goto (tgt := 44) hO dX3_find_26 (by decide) ?_
      refine x_iret hO hR dX3_find_44 rfl ?_
      exact ⟨rfl, rfl⟩
  · rw [bI_0 c] at hR
    refine x_bipush (v := (-2 : Int32)) hO dX3_find_7 rfl ?_
    refine x_iret hO hR dX3_find_9 rfl ?_
    exact ⟨rfl, rfl⟩
theorem kc_power (U : xP) (M : xM) {s : aO} (h : RC M s) (x : Int32) : xMetI U mX3_power [.inr 0, .inl x] M (quC M (q_power s.1.1 x)) := by
  refine xMetI.of (ty := .int) (L := [some (.inr 0), some (.inl x)]) fX3_power rfl rfl (Nat.le_of_ble_eq_true rfl) (fun G hN hO hR => ?_)
  have hN : G.2.2.2.2.2.2.2.2.2.2.1 = 2 := hN
  have hO : xOK U G RX3 cX3_power 5 := hO
  unfold q_power at hR
  refine x_iload_n hO dX3_power_0 rfl rfl ?_
  refine x_callS1 hO (k_isKey U M x) dX3_power_1 lkX3_37 fX3_isKey sX3_isKey rfl rfl (by decide) (Nat.le_of_ble_eq_true rfl) ?_
  refine x_if_eq (tgt := 18) hO dX3_power_4 (by decide) (fun c => ?_) (fun c => ?_)
  · rw [bI_0 c] at hR
    refine x_bipush (v := (-2 : Int32)) hO dX3_power_18 rfl ?_
    refine x_iret hO hR dX3_power_20 rfl ?_
    exact ⟨rfl, rfl⟩
  · rw [bI_1 c] at hR
    refine x_aload_n hO dX3_power_7 rfl rfl ?_
    refine x_getR (T := TX3) (j := 0) hO dX3_power_8 flX3_10 (by decide) rfl rfl (by decide) rfl rfl ?_
    refine x_iload_n hO dX3_power_11 rfl rfl ?_
    refine x_callV1 hO (k_powerFor U M x) dX3_power_12 lkX3_159 fX1_powerFor vX1_powerFor (by decide) rfl rfl rfl rfl rfl (by decide) (Nat.le_of_ble_eq_true rfl) ?_
    rw [h.rows]
    refine x_goto (tgt := 20) hO dX3_power_15 (by decide) ?_
    refine x_iret hO hR dX3_power_20 rfl ?_
    exact ⟨rfl, rfl⟩
theorem kc_filterMask (U : xP) (M : xM) {s : aO} (h : RC M s) (x : Int32) : xMetI U mX3_filterMask [.inr 0, .inl x] M (quC M (q_fm s.1.1 x)) := by
  refine xMetI.of (ty := .int) (L := [some (.inr 0), some (.inl x)]) fX3_filterMask rfl rfl (Nat.le_of_ble_eq_true rfl) (fun G hN hO hR => ?_)
  have hN : G.2.2.2.2.2.2.2.2.2.2.1 = 2 := hN
  have hO : xOK U G RX3 cX3_filterMask 3 := hO
  unfold q_fm at hR
  refine x_iload_n hO dX3_filterMask_0 rfl rfl ?_
  refine x_callS1 hO (k_isBank U M x) dX3_filterMask_1 lkX3_162 fX3_isBank sX3_isBank rfl rfl (by decide) (Nat.le_of_ble_eq_true rfl) ?_
  refine x_if_eq (tgt := 18) hO dX3_filterMask_4 (by decide) (fun c => ?_) (fun c => ?_)
  · rw [bI_0 c] at hR
    refine x_iconst (v := (-1 : Int32)) hO dX3_filterMask_18 rfl ?_
    refine x_iret hO hR dX3_filterMask_19 rfl ?_
    exact ⟨rfl, rfl⟩
  · rw [bI_1 c, if_pos rfl] at hR
    obtain ⟨ex, hx⟩ := ixB_c (by decide) (bI_1 c)
    generalize x.toNatClampNeg = b at *
    subst ex
    refine x_aload_n hO dX3_filterMask_7 rfl rfl ?_
    refine x_getR (T := TX3) (j := 0) hO dX3_filterMask_8 flX3_10 (by decide) rfl rfl (by decide) rfl rfl ?_
    refine x_iload_n hO dX3_filterMask_11 rfl rfl ?_
    refine x_callV1 hO (k_commonMask U M hx) dX3_filterMask_12 lkX3_165 fX1_commonMask vX1_commonMask (by decide) rfl rfl rfl rfl rfl (by decide) (Nat.le_of_ble_eq_true rfl) ?_
    rw [h.rows]
    refine x_goto (tgt := 19) hO dX3_filterMask_15 (by decide) ?_
    refine x_iret hO hR dX3_filterMask_19 rfl ?_
    exact ⟨rfl, rfl⟩
theorem kc_filterValue (U : xP) (M : xM) {s : aO} (h : RC M s) (x : Int32) : xMetI U mX3_filterValue [.inr 0, .inl x] M (quC M (q_fv s.1.1 x)) := by
  refine xMetI.of (ty := .int) (L := [some (.inr 0), some (.inl x)]) fX3_filterValue rfl rfl (Nat.le_of_ble_eq_true rfl) (fun G hN hO hR => ?_)
  have hN : G.2.2.2.2.2.2.2.2.2.2.1 = 2 := hN
  have hO : xOK U G RX3 cX3_filterValue 4 := hO
  unfold q_fv at hR
  refine x_iload_n hO dX3_filterValue_0 rfl rfl ?_
  refine x_callS1 hO (k_isBank U M x) dX3_filterValue_1 lkX3_162 fX3_isBank sX3_isBank rfl rfl (by decide) (Nat.le_of_ble_eq_true rfl) ?_
  refine x_if_eq (tgt := 18) hO dX3_filterValue_4 (by decide) (fun c => ?_) (fun c => ?_)
  · rw [bI_0 c] at hR
    refine x_iconst (v := (-1 : Int32)) hO dX3_filterValue_18 rfl ?_
    refine x_iret hO hR dX3_filterValue_19 rfl ?_
    exact ⟨rfl, rfl⟩
  · rw [bI_1 c, if_pos rfl] at hR
    obtain ⟨ex, hx⟩ := ixB_c (by decide) (bI_1 c)
    generalize x.toNatClampNeg = b at *
    subst ex
    refine x_aload_n hO dX3_filterValue_7 rfl rfl ?_
    refine x_getR (T := TX3) (j := 0) hO dX3_filterValue_8 flX3_10 (by decide) rfl rfl (by decide) rfl rfl ?_
    refine x_iload_n hO dX3_filterValue_11 rfl rfl ?_
    refine x_callV1 hO (k_commonValue U M hx) dX3_filterValue_12 lkX3_168 fX1_commonValue vX1_commonValue (by decide) rfl rfl rfl rfl rfl (by decide) (Nat.le_of_ble_eq_true rfl) ?_
    rw [h.rows]
    refine x_goto (tgt := 19) hO dX3_filterValue_15 (by decide) ?_
    refine x_iret hO hR dX3_filterValue_19 rfl ?_
    exact ⟨rfl, rfl⟩
theorem kc_hiddenBy (U : xP) (M : xM) {s : aO} (h : RC M s) (x : Int32) : xMetI U mX3_hiddenBy [.inr 0, .inl x] M (quC M (q_hid s.1.1 x)) := by
  refine xMetI.of (ty := .int) (L := [some (.inr 0), some (.inl x), none]) fX3_hiddenBy rfl rfl (Nat.le_of_ble_eq_true rfl) (fun G hN hO hR => ?_)
  have hN : G.2.2.2.2.2.2.2.2.2.2.1 = 3 := hN
  have hO : xOK U G RX3 cX3_hiddenBy 2 := hO
  unfold q_hid at hR
  refine x_iload_n hO dX3_hiddenBy_0 rfl rfl ?_
  refine x_callS1 hO (k_isSlot U M x) dX3_hiddenBy_1 lkX3_171 fX3_isSlot sX3_isSlot rfl rfl (by decide) (Nat.le_of_ble_eq_true rfl) ?_
  refine x_if_ne (tgt := 9) hO dX3_hiddenBy_4 (by decide) (fun c => ?_) (fun c => ?_)
  · rw [bI_1 c, if_pos rfl] at hR
    obtain ⟨ex, hx⟩ := ixB_c (by decide) (bI_1 c)
    generalize x.toNatClampNeg = b at *
    subst ex
    refine x_aload_n hO dX3_hiddenBy_9 rfl rfl ?_
    refine x_getR (T := TX3) (j := 0) hO dX3_hiddenBy_10 flX3_10 (by decide) rfl rfl (by decide) rfl rfl ?_
    refine x_iload_n hO dX3_hiddenBy_13 rfl rfl ?_
    refine x_callV1 hO (k_slotHiding U M hx) dX3_hiddenBy_14 lkX3_174 fX1_slotHiding vX1_slotHiding (by decide) rfl rfl rfl rfl rfl (by decide) (Nat.le_of_ble_eq_true rfl) ?_
    rw [h.rows]
    by_cases q : aoc s.1.1 b = true
    · rw [if_pos q] at hR ⊢
      generalize aHid s.1.1 b = v at *
      refine x_istore_n (n := 3) hO dX3_hiddenBy_17 rfl rfl (by decide) hN ?_
      refine x_iload_n hO dX3_hiddenBy_18 rfl rfl ?_
      refine x_iconst (v := (-1 : Int32)) hO dX3_hiddenBy_19 rfl ?_
      refine x_icmp_ne (tgt := 28) hO dX3_hiddenBy_20 (by decide) (fun c2 => ?_) (fun c2 => ?_)
      · rw [if_neg c2] at hR
        refine x_iload_n hO dX3_hiddenBy_28 rfl rfl ?_
        refine x_iret hO hR dX3_hiddenBy_29 rfl ?_
        exact ⟨rfl, rfl⟩
      · rw [if_pos c2] at hR
        refine x_bipush (v := (-4 : Int32)) hO dX3_hiddenBy_23 rfl ?_
        refine x_goto (tgt := 29) hO dX3_hiddenBy_25 (by decide) ?_
        refine x_iret hO hR dX3_hiddenBy_29 rfl ?_
        exact ⟨rfl, rfl⟩
    · rw [if_neg q] at hR ⊢
      refine x_istore_n (n := 3) hO dX3_hiddenBy_17 rfl rfl (by decide) hN ?_
      refine x_iload_n hO dX3_hiddenBy_18 rfl rfl ?_
      refine x_iconst (v := (-1 : Int32)) hO dX3_hiddenBy_19 rfl ?_
      refine x_icmp_ne (tgt := 28) hO dX3_hiddenBy_20 (by decide) (fun c2 => ?_) (fun c2 => ?_)
      · exact absurd rfl c2
      · refine x_bipush (v := (-4 : Int32)) hO dX3_hiddenBy_23 rfl ?_
        refine x_goto (tgt := 29) hO dX3_hiddenBy_25 (by decide) ?_
        refine x_iret hO hR dX3_hiddenBy_29 rfl ?_
        exact ⟨rfl, rfl⟩
  · rw [bI_0 c] at hR
    refine x_iconst (v := (-1 : Int32)) hO dX3_hiddenBy_7 rfl ?_
    refine x_iret hO hR dX3_hiddenBy_8 rfl ?_
    exact ⟨rfl, rfl⟩
theorem kc_keysFor (U : xP) (M : xM) {s : aO} (h : RC M s) (x : Int32) : xMetI U mX3_keysFor [.inr 0, .inl x] M (quC M (q_keys s.1.1 x)) := by
  refine xMetI.of (ty := .int) (L := [some (.inr 0), some (.inl x)]) fX3_keysFor rfl rfl (Nat.le_of_ble_eq_true rfl) (fun G hN hO hR => ?_)
  have hN : G.2.2.2.2.2.2.2.2.2.2.1 = 2 := hN
  have hO : xOK U G RX3 cX3_keysFor 3 := hO
  unfold q_keys at hR
  refine x_iload_n hO dX3_keysFor_0 rfl rfl ?_
  refine x_callS1 hO (k_isSlot U M x) dX3_keysFor_1 lkX3_171 fX3_isSlot sX3_isSlot rfl rfl (by decide) (Nat.le_of_ble_eq_true rfl) ?_
  refine x_if_eq (tgt := 18) hO dX3_keysFor_4 (by decide) (fun c => ?_) (fun c => ?_)
  · rw [bI_0 c] at hR
    refine x_iconst (v := (-1 : Int32)) hO dX3_keysFor_18 rfl ?_
    refine x_iret hO hR dX3_keysFor_19 rfl ?_
    exact ⟨rfl, rfl⟩
  · rw [bI_1 c] at hR
    refine x_aload_n hO dX3_keysFor_7 rfl rfl ?_
    refine x_getR (T := TX3) (j := 0) hO dX3_keysFor_8 flX3_10 (by decide) rfl rfl (by decide) rfl rfl ?_
    refine x_iload_n hO dX3_keysFor_11 rfl rfl ?_
    refine x_callV1 hO (k_keysFinding U M x) dX3_keysFor_12 lkX3_177 fX1_keysFinding vX1_keysFinding (by decide) rfl rfl rfl rfl rfl (by decide) (Nat.le_of_ble_eq_true rfl) ?_
    rw [h.rows]
    refine x_goto (tgt := 19) hO dX3_keysFor_15 (by decide) ?_
    refine x_iret hO hR dX3_keysFor_19 rfl ?_
    exact ⟨rfl, rfl⟩
theorem kc_wouldMove (U : xP) (M : xM) {s : aO} (h : RC M s) (x : Int32) : xMetI U mX3_wouldMove [.inr 0, .inl x] M (quC M (q_wm s.1.1 x)) := by
  refine xMetI.of (ty := .int) (L := [some (.inr 0), some (.inl x)]) fX3_wouldMove rfl rfl (Nat.le_of_ble_eq_true rfl) (fun G hN hO hR => ?_)
  have hN : G.2.2.2.2.2.2.2.2.2.2.1 = 2 := hN
  have hO : xOK U G RX3 cX3_wouldMove 4 := hO
  unfold q_wm at hR
  have hle := aCnt_le s.1.1
  refine x_iload_n hO dX3_wouldMove_0 rfl rfl ?_
  refine x_callS1 hO (k_isRank U M x) dX3_wouldMove_1 lkX3_41 fX3_isRank sX3_isRank rfl rfl (by decide) (Nat.le_of_ble_eq_true rfl) ?_
  refine x_if_ne (tgt := 10) hO dX3_wouldMove_4 (by decide) (fun c => ?_) (fun c => ?_)
  · rw [bI_1 c, if_pos rfl] at hR
    refine x_aload_n hO dX3_wouldMove_10 rfl rfl ?_
    refine x_getR (T := TX3) (j := 0) hO dX3_wouldMove_11 flX3_10 (by decide) rfl rfl (by decide) rfl rfl ?_
    refine x_callV1 hO (k_freeSlots U M) dX3_wouldMove_14 lkX3_47 fX1_freeSlots vX1_freeSlots (by decide) rfl rfl rfl rfl rfl (by decide) (Nat.le_of_ble_eq_true rfl) ?_
    rw [h.rows]
    refine x_if_ne (tgt := 25) hO dX3_wouldMove_17 (by decide) (fun c2 => ?_) (fun c2 => ?_)
    · rw [if_neg (fun z => c2 (by rw [z]; rfl))] at hR
      refine x_aload_n hO dX3_wouldMove_25 rfl rfl ?_
      refine x_getR (T := TX3) (j := 0) hO dX3_wouldMove_26 flX3_10 (by decide) rfl rfl (by decide) rfl rfl ?_
      refine x_iload_n hO dX3_wouldMove_29 rfl rfl ?_
      refine x_callV1 hO (k_movesFor U M x) dX3_wouldMove_30 lkX3_180 fX1_movesFor vX1_movesFor (by decide) rfl rfl rfl rfl rfl (by decide) (Nat.le_of_ble_eq_true rfl) ?_
      rw [h.rows]
      refine x_iret hO hR dX3_wouldMove_33 rfl ?_
      exact ⟨rfl, rfl⟩
    · rw [if_pos (by have := (nI_eq (b := 0) (by omega) (by decide)).mp c2; omega)] at hR
      refine x_bipush (v := (-3 : Int32)) hO dX3_wouldMove_20 rfl ?_
      refine x_goto (tgt := 33) hO dX3_wouldMove_22 (by decide) ?_
      refine x_iret hO hR dX3_wouldMove_33 rfl ?_
      exact ⟨rfl, rfl⟩
  · rw [bI_0 c] at hR
    refine x_bipush (v := (-2 : Int32)) hO dX3_wouldMove_7 rfl ?_
    refine x_iret hO hR dX3_wouldMove_9 rfl ?_
    exact ⟨rfl, rfl⟩
theorem kc_entriesFor (U : xP) (M : xM) (x y : Int32) : xMetI U mX3_entriesFor [.inr 0, .inl x, .inl y] M (quC M (q_ef x y)) := by
  refine xMetI.of (ty := .int) (L := [some (.inr 0), some (.inl x), some (.inl y)]) fX3_entriesFor rfl rfl (Nat.le_of_ble_eq_true rfl) (fun G hN hO hR => ?_)
  have hN : G.2.2.2.2.2.2.2.2.2.2.1 = 3 := hN
  have hO : xOK U G RX3 cX3_entriesFor 2 := hO
  unfold q_ef at hR
  refine x_iload_n hO dX3_entriesFor_0 rfl rfl ?_
  refine x_iload_n hO dX3_entriesFor_1 rfl rfl ?_
  refine x_callS1 hO (k_isRange U M x y) dX3_entriesFor_2 lkX3_59 fX3_isRange sX3_isRange rfl rfl (by decide) (Nat.le_of_ble_eq_true rfl) ?_
  refine x_if_eq (tgt := 16) hO dX3_entriesFor_5 (by decide) (fun c => ?_) (fun c => ?_)
  · rw [bI_0 c] at hR
    refine x_bipush (v := (-2 : Int32)) hO dX3_entriesFor_16 rfl ?_
    refine x_iret hO hR dX3_entriesFor_18 rfl ?_
    exact ⟨rfl, rfl⟩
  · rw [bI_1 c, if_pos rfl] at hR
    obtain ⟨ex, ey, lx, ly, -⟩ := rgB_c (bI_1 c)
    generalize x.toNatClampNeg = f at *
    generalize y.toNatClampNeg = g at *
    subst ex
    subst ey
    refine x_iload_n hO dX3_entriesFor_8 rfl rfl ?_
    refine x_iload_n hO dX3_entriesFor_9 rfl rfl ?_
    refine x_callS1 hO (k_blocksOf U M lx ly) dX3_entriesFor_10 lkX3_63 fX3_blocksOf sX3_blocksOf rfl rfl (by decide) (Nat.le_of_ble_eq_true rfl) ?_
    refine x_goto (tgt := 18) hO dX3_entriesFor_13 (by decide) ?_
    refine x_iret hO hR dX3_entriesFor_18 rfl ?_
    exact ⟨rfl, rfl⟩
end
section
/-! ===== Integer.bitCount counts the bits ===== -/
theorem nI_and {a b : Nat} (ha : a < 2 ^ 32) (hb : b < 2 ^ 32) : nI a &&& nI b = nI (a &&& b) := by
  apply Int32.toBitVec_inj.mp
  apply BitVec.eq_of_toNat_eq
  rw [Int32.toBitVec_and, BitVec.toNat_and, pk_tn ha, pk_tn hb, pk_tn (Nat.lt_of_le_of_lt Nat.and_le_left ha)]
theorem nI_or {a b : Nat} (ha : a < 2 ^ 32) (hb : b < 2 ^ 32) : nI a ||| nI b = nI (a ||| b) := by
  apply Int32.toBitVec_inj.mp
  apply BitVec.eq_of_toNat_eq
  rw [Int32.toBitVec_or, BitVec.toNat_or, pk_tn ha, pk_tn hb, pk_tn (Nat.or_lt_two_pow ha hb)]
theorem us_n {n : Nat} (h : n < 2 ^ 32) : us (nI n) 1 = nI (n / 2) ∧ us (nI n) 2 = nI (n / 4) ∧ us (nI n) 4 = nI (n / 16) ∧ us (nI n) 8 = nI (n / 256) ∧ us (nI n) 16 = nI (n / 65536) := by
  refine ⟨pk_ushrN h (nI 1) 1 (by decide), pk_ushrN h (nI 2) 2 (by decide), pk_ushrN h (nI 4) 4 (by decide), pk_ushrN h (nI 8) 8 (by decide), pk_ushrN h (nI 16) 16 (by decide)⟩
theorem and_split (X M : Nat) : X &&& M = ((X % 256) &&& (M % 256)) + 256 * ((X / 256) &&& (M / 256)) := by
  have h1 : (X &&& M) % 256 = (X % 256) &&& (M % 256) := Nat.and_mod_two_pow (n := 8)
  have h2 : (X &&& M) / 256 = (X / 256) &&& (M / 256) := Nat.and_div_two_pow (n := 8)
  rw [← h1, ← h2]
  omega
def b1 (y : Nat) : Nat := y - (y / 2 &&& 0x55)
def b2 (y : Nat) : Nat := (y &&& 0x33) + (y / 4 &&& 0x33)
def b3 (y : Nat) : Nat := (y + y / 16) % 16
theorem by1 : ∀ y, y < 256 → ∀ c, c < 2 → (y / 2 + 128 * c) &&& 0x55 = y / 2 &&& 0x55 := by decide +kernel
theorem by2 : ∀ y, y < 256 → ∀ c, c < 4 → (y / 4 + 64 * c) &&& 0x33 = y / 4 &&& 0x33 := by decide +kernel
theorem by3 : ∀ y, y < 256 → (y / 2 &&& 0x55) ≤ y ∧ b1 y < 256 ∧ b2 (b1 y) ≤ 68 ∧ b2 (b1 y) % 16 ≤ 4 ∧ b3 (b2 (b1 y)) ≤ 8 ∧ b3 (b2 (b1 y)) = nC (fun i => y.testBit i) 8 := by decide +kernel
theorem sh1 {y z M : Nat} (hy : y < 256) (hM : M % 256 = 0x55) : (y + 256 * z) / 2 &&& M = (y / 2 &&& 0x55) + 256 * (z / 2 &&& (M / 256)) := by
  rw [and_split, hM]
  have e1 : (y + 256 * z) / 2 % 256 = y / 2 + 128 * (z % 2) := by omega
  have e2 : (y + 256 * z) / 2 / 256 = z / 2 := by omega
  rw [e1, e2, by1 y hy _ (by omega)]
theorem sh2 {y z M : Nat} (hy : y < 256) (hM : M % 256 = 0x33) : (y + 256 * z) / 4 &&& M = (y / 4 &&& 0x33) + 256 * (z / 4 &&& (M / 256)) := by
  rw [and_split, hM]
  have e1 : (y + 256 * z) / 4 % 256 = y / 4 + 64 * (z % 4) := by omega
  have e2 : (y + 256 * z) / 4 / 256 = z / 4 := by omega
  rw [e1, e2, by2 y hy _ (by omega)]
theorem sh0 {y z M : Nat} (hy : y < 256) (hM : M % 256 = 0x33) : (y + 256 * z) &&& M = (y &&& 0x33) + 256 * (z &&& (M / 256)) := by
  rw [and_split, hM]
  have e1 : (y + 256 * z) % 256 = y := by omega
  have e2 : (y + 256 * z) / 256 = z := by omega
  rw [e1, e2]
theorem shf {y z M : Nat} (hM : M % 256 = 15) : (y + 256 * z) &&& M = (y % 16) + 256 * ((y / 256 + z) &&& (M / 256)) := by
  rw [and_split, hM]
  have e1 : (y + 256 * z) % 256 = y % 256 := by omega
  have e2 : (y + 256 * z) / 256 = y / 256 + z := by omega
  have e3 : y % 256 &&& 15 = y % 16 := by
    have := Nat.and_two_pow_sub_one_eq_mod (y % 256) 4
    rw [show (15 : Nat) = 2 ^ 4 - 1 from rfl, this]
    omega
  rw [e1, e2, e3]
/-- all in numbers -/
def bcN (x : Nat) : Nat :=
  let a := x - (x / 2 &&& 1431655765)
  let b := (a &&& 858993459) + (a / 4 &&& 858993459)
  let c := (b + b / 16) &&& 252645135
  let d := c + c / 256
  let e := d + d / 65536
  e % 64
theorem bc_last {w0 w1 w2 w3 : Nat} (h0 : w0 ≤ 8) (h1 : w1 ≤ 8) (h2 : w2 ≤ 8) (h3 : w3 ≤ 8) : (w0 + 256 * (w1 + 256 * (w2 + 256 * w3)) + (w0 + 256 * (w1 + 256 * (w2 + 256 * w3))) / 256 + (w0 + 256 * (w1 + 256 * (w2 + 256 * w3)) + (w0 + 256 * (w1 + 256 * (w2 + 256 * w3))) / 256) / 65536) % 64 = w0 + w1 + w2 + w3 := by
  have d1 : (w0 + 256 * (w1 + 256 * (w2 + 256 * w3))) / 256 = w1 + 256 * (w2 + 256 * w3) := by omega
  rw [d1]
  have d2 : (w0 + 256 * (w1 + 256 * (w2 + 256 * w3)) + (w1 + 256 * (w2 + 256 * w3))) / 65536 = w2 + w3 + 256 * w3 := by omega
  rw [d2]
  omega
theorem bcN_bytes {y0 y1 y2 y3 : Nat} (h0 : y0 < 256) (h1 : y1 < 256) (h2 : y2 < 256) (h3 : y3 < 256) : bcN (y0 + 256 * (y1 + 256 * (y2 + 256 * y3))) = nC (fun i => y0.testBit i) 8 + nC (fun i => y1.testBit i) 8 + nC (fun i => y2.testBit i) 8 + nC (fun i => y3.testBit i) 8 := by
  obtain ⟨p0, q0, r0, s0, t0, u0⟩ := by3 y0 h0
  obtain ⟨p1, q1, r1, s1, t1, u1⟩ := by3 y1 h1
  obtain ⟨p2, q2, r2, s2, t2, u2⟩ := by3 y2 h2
  obtain ⟨p3, q3, r3, s3, t3, u3⟩ := by3 y3 h3
  have a1 : (y0 + 256 * (y1 + 256 * (y2 + 256 * y3))) - ((y0 + 256 * (y1 + 256 * (y2 + 256 * y3))) / 2 &&& 1431655765) = b1 y0 + 256 * (b1 y1 + 256 * (b1 y2 + 256 * b1 y3)) := by
    rw [sh1 h0 (by decide), sh1 h1 (by decide), sh1 h2 (by decide)]
    show _ - ((y0 / 2 &&& 0x55) + 256 * ((y1 / 2 &&& 0x55) + 256 * ((y2 / 2 &&& 0x55) + 256 * (y3 / 2 &&& 0x55)))) = _
    unfold b1
    omega
  have a2 : (b1 y0 + 256 * (b1 y1 + 256 * (b1 y2 + 256 * b1 y3)) &&& 858993459) + ((b1 y0 + 256 * (b1 y1 + 256 * (b1 y2 + 256 * b1 y3))) / 4 &&& 858993459) = b2 (b1 y0) + 256 * (b2 (b1 y1) + 256 * (b2 (b1 y2) + 256 * b2 (b1 y3))) := by
    rw [sh2 q0 (by decide), sh2 q1 (by decide), sh2 q2 (by decide), sh0 q0 (by decide), sh0 q1 (by decide), sh0 q2 (by decide)]
    show ((b1 y0 &&& 0x33) + 256 * ((b1 y1 &&& 0x33) + 256 * ((b1 y2 &&& 0x33) + 256 * (b1 y3 &&& 0x33)))) + ((b1 y0 / 4 &&& 0x33) + 256 * ((b1 y1 / 4 &&& 0x33) + 256 * ((b1 y2 / 4 &&& 0x33) + 256 * (b1 y3 / 4 &&& 0x33)))) = _
    unfold b2
    omega
  unfold bcN
  simp only [a1, a2]
  rw [← u0, ← u1, ← u2, ← u3]
  generalize b2 (b1 y0) = z0 at *
  generalize b2 (b1 y1) = z1 at *
  generalize b2 (b1 y2) = z2 at *
  generalize b2 (b1 y3) = z3 at *
  have a3 : ((z0 + 256 * (z1 + 256 * (z2 + 256 * z3))) + (z0 + 256 * (z1 + 256 * (z2 + 256 * z3))) / 16 &&& 252645135) = b3 z0 + 256 * (b3 z1 + 256 * (b3 z2 + 256 * b3 z3)) := by
    have e : (z0 + 256 * (z1 + 256 * (z2 + 256 * z3))) + (z0 + 256 * (z1 + 256 * (z2 + 256 * z3))) / 16 = (z0 + z0 / 16 + 16 * (z1 % 16)) + 256 * ((z1 + z1 / 16 + 16 * (z2 % 16)) + 256 * ((z2 + z2 / 16 + 16 * (z3 % 16)) + 256 * (z3 + z3 / 16))) := by omega
    rw [e, shf (by decide)]
    rw [show (z0 + z0 / 16 + 16 * (z1 % 16)) / 256 = 0 by omega, Nat.zero_add, shf (by decide)]
    rw [show (z1 + z1 / 16 + 16 * (z2 % 16)) / 256 = 0 by omega, Nat.zero_add, shf (by decide)]
    rw [show (z2 + z2 / 16 + 16 * (z3 % 16)) / 256 = 0 by omega, Nat.zero_add]
    have e4 : z3 + z3 / 16 &&& 252645135 / 256 / 256 / 256 = (z3 + z3 / 16) % 16 := Nat.and_two_pow_sub_one_eq_mod _ 4
    rw [e4, Nat.add_mul_mod_self_left, Nat.add_mul_mod_self_left, Nat.add_mul_mod_self_left]
    rfl
  rw [a3]
  generalize b3 z0 = w0 at *
  generalize b3 z1 = w1 at *
  generalize b3 z2 = w2 at *
  generalize b3 z3 = w3 at *
  exact bc_last t0 t1 t2 t3
theorem bcN_nC {n : Nat} (h : n < 2 ^ 32) : bcN n = nC (fun i => n.testBit i) 32 := by
  have e : n = n % 256 + 256 * (n / 256 % 256 + 256 * (n / 65536 % 256 + 256 * (n / 16777216))) := by omega
  have h1 : nC (fun i => n.testBit i) 32 = nC (fun i => (n % 256).testBit i) 8 + nC (fun i => (n / 256 % 256).testBit i) 8 + nC (fun i => (n / 65536 % 256).testBit i) 8 + nC (fun i => (n / 16777216).testBit i) 8 := by
    have t : ∀ m : Nat, nC (fun i => (m % 256).testBit i) 8 = nC (fun i => m.testBit i) 8 := fun m => nC_congr (fun i hi => by
      rw [show 256 = 2 ^ 8 from rfl, Nat.testBit_mod_two_pow]
      simp [hi])
    rw [show 32 = 8 + (8 + (8 + 8)) from rfl, nC_add, nC_add, nC_add, t, t, t]
    have d1 : ∀ i, (n / 256).testBit i = n.testBit (8 + i) := fun i => by rw [show 256 = 2 ^ 8 from rfl, Nat.testBit_div_two_pow]; congr 1; omega
    have d2 : ∀ i, (n / 65536).testBit i = n.testBit (8 + (8 + i)) := fun i => by rw [show 65536 = 2 ^ 16 from rfl, Nat.testBit_div_two_pow]; congr 1; omega
    have d3 : ∀ i, (n / 16777216).testBit i = n.testBit (8 + (8 + (8 + i))) := fun i => by rw [show 16777216 = 2 ^ 24 from rfl, Nat.testBit_div_two_pow]; congr 1; omega
    simp only [d1, d2, d3]
    omega
  rw [h1, ← bcN_bytes (by omega) (by omega) (by omega) (by omega), ← e]
theorem bc_mid {n : Nat} (h : n < 2 ^ 32) : (n / 2 &&& 1431655765) ≤ n ∧ n - (n / 2 &&& 1431655765) < 2 ^ 32 := by
  have : (n / 2 &&& 1431655765) ≤ n / 2 := Nat.and_le_left
  omega
theorem bcI_n {n : Nat} (h : n < 2 ^ 32) : bcI (nI n) = nI (bcN n) := by
  unfold bcI bcN
  obtain ⟨m1, m2⟩ := bc_mid h
  have c1 : (1431655765 : Int32) = nI 1431655765 := by decide
  have c2 : (858993459 : Int32) = nI 858993459 := by decide
  have c3 : (252645135 : Int32) = nI 252645135 := by decide
  simp only [(us_n h).1, c1, c2, c3]
  rw [nI_and (by omega) (by decide), pk_sub m1]
  generalize n - (n / 2 &&& 1431655765) = a at *
  rw [(us_n m2).2.1, nI_and m2 (by decide), nI_and (by omega) (by decide), nI_add]
  have l1 : (a &&& 858993459) ≤ 858993459 := Nat.and_le_right
  have l2 : (a / 4 &&& 858993459) ≤ 858993459 := Nat.and_le_right
  have hb : (a &&& 858993459) + (a / 4 &&& 858993459) ≤ 1717986918 := by omega
  generalize (a &&& 858993459) + (a / 4 &&& 858993459) = b at *
  rw [(us_n (by omega)).2.2.1, nI_add, nI_and (by omega) (by decide)]
  have l3 : (b + b / 16 &&& 252645135) ≤ 252645135 := Nat.and_le_right
  generalize (b + b / 16 &&& 252645135) = c at *
  rw [(us_n (by omega)).2.2.2.1, nI_add, (us_n (by omega)).2.2.2.2, nI_add, nI_and (by omega) (by decide)]
  congr 1
  exact Nat.and_two_pow_sub_one_eq_mod _ 6
/-! ===== the entries that no key finds ===== -/
def nFB (A : aR) : Nat → Nat
  | 0 => 0
  | k + 1 => if aFd A (nI k) < 32 then nFB A k ||| 2 ^ aFd A (nI k) else nFB A k
theorem bit_sh : ∀ f, f < 32 → nI 1 <<< (nI f &&& 31) = nI (2 ^ f) := by decide +kernel
theorem nFB_lt (A : aR) : ∀ k, nFB A k < 2 ^ 32
  | 0 => by show 0 < 2 ^ 32; decide
  | k + 1 => by
    simp only [nFB]
    split
    · rename_i q
      exact Nat.or_lt_two_pow (nFB_lt A k) (Nat.pow_lt_pow_right (by decide) q)
    · exact nFB_lt A k
theorem aFB_n (A : aR) : ∀ k, aFB A k = nI (nFB A k)
  | 0 => rfl
  | k + 1 => by
    simp only [aFB, nFB]
    split
    · rename_i q
      rw [aFB_n A k, bit_sh _ q, nI_or (nFB_lt A k) (Nat.pow_lt_pow_right (by decide) q)]
    · exact aFB_n A k
theorem nFB_bit (A : aR) {s : Nat} (hs : s < 32) : ∀ k, (nFB A k).testBit s = !(aKs A (nI s) k == 0)
  | 0 => by simp [nFB, aKs, nC]
  | k + 1 => by
    have ih := nFB_bit A hs k
    have e : aKs A (nI s) (k + 1) = aKs A (nI s) k + (if aN (aFd A (nI k)) == nI s then 1 else 0) := rfl
    rw [e]
    simp only [nFB]
    split
    · rename_i q
      rw [Nat.testBit_or, ih, aN_lt q, Nat.testBit_two_pow]
      by_cases z : aFd A (nI k) = s
      · simp [z]
      · have : ¬ nI (aFd A (nI k)) = nI s := fun y => z ((nI_eq (by omega) (by omega)).mp y)
        simp [z, this]
    · rename_i q
      rw [ih, aN_ge q]
      have : ¬ (-1 : Int32) = nI s := fun y => nI_m1 (n := s) (by omega) y.symm
      simp [this]
theorem nC_part {P Q : Nat → Bool} : ∀ n, nC P n = nC (fun i => P i && Q i) n + nC (fun i => P i && !Q i) n
  | 0 => rfl
  | n + 1 => by
    have := nC_part (P := P) (Q := Q) n
    simp only [nC, this]
    rcases Bool.eq_false_or_eq_true (P n) with h1 | h1 <;> rcases Bool.eq_false_or_eq_true (Q n) with h2 | h2 <;> simp [h1, h2] <;> omega
theorem aKs_oc {A : aR} {s : Nat} (hs : s < 32) (h : (aKs A (nI s) 256 == 0) = false) : aoc A s = true := by
  cases e : aoc A s with
  | true => rfl
  | false =>
    have h0 : aKs A (nI s) 256 = 0 := nC_0.mpr (fun i _ => by
      cases z : (aN (aFd A (nI i)) == nI s) with
      | false => rfl
      | true =>
        have z2 := beq_iff_eq.mp z
        by_cases q : aFd A (nI i) < 32
        · rw [aN_lt q] at z2
          have z3 := (nI_eq (by omega) (by omega)).mp z2
          have := aFd_oc q
          rw [z3, e] at this
          cases this
        · rw [aN_ge q] at z2
          exact absurd z2.symm (nI_m1 (by omega)))
    rw [h0] at h
    cases h
theorem never_eq (A : aR) : nI (aCnt A) - bcI (aFB A 256) = nI (aNever A) := by
  rw [aFB_n, bcI_n (nFB_lt A 256), bcN_nC (nFB_lt A 256)]
  have e1 : nC (fun i => (nFB A 256).testBit i) 32 = nC (fun s => aoc A s && !(aKs A (nI s) 256 == 0)) 32 := nC_congr (fun s hs => by
    rw [nFB_bit A hs]
    cases z : (aKs A (nI s) 256 == 0) with
    | true => simp
    | false => rw [aKs_oc hs z]; rfl)
  have e2 := nC_part (P := aoc A) (Q := fun s => aKs A (nI s) 256 == 0) 32
  have e3 : aCnt A = aNever A + nC (fun s => aoc A s && !(aKs A (nI s) 256 == 0)) 32 := e2
  rw [e1, pk_sub (by omega)]
  congr 1
  omega
theorem kc_total (U : xP) (M : xM) {s : aO} (h : RC M s) (x : Int32) : xMetI U mX3_total [.inr 0, .inl x] M (quC M (q_total s x)) := by
  refine xMetI.of (ty := .int) (L := [some (.inr 0), some (.inl x)]) fX3_total rfl rfl (Nat.le_of_ble_eq_true rfl) (fun G hN hO hR => ?_)
  have hN : G.2.2.2.2.2.2.2.2.2.2.1 = 2 := hN
  have hO : xOK U G RX3 cX3_total 4 := hO
  obtain ⟨n, hn, h31, e1, e2⟩ := h.txt
  obtain ⟨o, c, h3, h4, h5, h6, h7⟩ := h.2.2.1
  refine x_iload_n hO dX3_total_0 rfl rfl ?_
  by_cases hx : 0 ≤ x.toInt ∧ x.toInt ≤ 10
  · obtain ⟨k, hk, rfl⟩ : ∃ k : Nat, k ≤ 10 ∧ x = nI k := by
      obtain ⟨k, hk, rfl⟩ := nI_of (x := x) (by rw [Int32.lt_iff_toInt_lt]; simp; omega)
      rw [nI_toInt hk] at hx
      exact ⟨k, by omega, rfl⟩
    have ht : (nI k).toInt = k := nI_toInt (by omega)
    obtain rfl | rfl | rfl | rfl | rfl | rfl | rfl | rfl | rfl | rfl | rfl : k = 0 ∨ k = 1 ∨ k = 2 ∨ k = 3 ∨ k = 4 ∨ k = 5 ∨ k = 6 ∨ k = 7 ∨ k = 8 ∨ k = 9 ∨ k = 10 := by omega
    · refine x_tableIn (tgt := 60) hO dX3_total_1 (by decide) (by decide) (show _ = some 59 by decide) (by decide) ?_
      refine x_aload_n hO dX3_total_60 rfl rfl ?_
      refine x_getR (T := TX3) (j := 0) hO dX3_total_61 flX3_10 (by decide) rfl rfl (by decide) rfl rfl ?_
      refine x_callV1 hO (k_entries U M) dX3_total_64 lkX3_85 fX1_entries vX1_entries (by decide) rfl rfl rfl rfl rfl (by decide) (Nat.le_of_ble_eq_true rfl) ?_
      rw [h.rows]
      refine x_iret hO hR dX3_total_67 rfl ?_
      exact ⟨rfl, rfl⟩
    · refine x_tableIn (tgt := 68) hO dX3_total_1 (by decide) (by decide) (show _ = some 67 by decide) (by decide) ?_
      refine x_aload_n hO dX3_total_68 rfl rfl ?_
      refine x_getR (T := TX3) (j := 0) hO dX3_total_69 flX3_10 (by decide) rfl rfl (by decide) rfl rfl ?_
      refine x_callV1 hO (k_rules U M) dX3_total_72 lkX3_183 fX1_rules vX1_rules (by decide) rfl rfl rfl rfl rfl (by decide) (Nat.le_of_ble_eq_true rfl) ?_
      rw [h.rows]
      refine x_iret hO hR dX3_total_75 rfl ?_
      exact ⟨rfl, rfl⟩
    · refine x_tableIn (tgt := 76) hO dX3_total_1 (by decide) (by decide) (show _ = some 75 by decide) (by decide) ?_
      refine x_aload_n hO dX3_total_76 rfl rfl ?_
      refine x_getR (T := TX3) (j := 0) hO dX3_total_77 flX3_10 (by decide) rfl rfl (by decide) rfl rfl ?_
      refine x_getNI (T := TX1) (j := 8) hO dX3_total_80 flX3_186 (by decide) rfl rfl (by decide) rfl rfl ?_
      rw [show M 16 8 = s.1.2 1 from h.num (j := 1) (by decide)]
      refine x_iret hO hR dX3_total_83 rfl ?_
      exact ⟨rfl, rfl⟩
    · refine x_tableIn (tgt := 84) hO dX3_total_1 (by decide) (by decide) (show _ = some 83 by decide) (by decide) ?_
      refine x_aload_n hO dX3_total_84 rfl rfl ?_
      refine x_getR (T := TX3) (j := 0) hO dX3_total_85 flX3_10 (by decide) rfl rfl (by decide) rfl rfl ?_
      refine x_getNI (T := TX1) (j := 7) hO dX3_total_88 flX3_78 (by decide) rfl rfl (by decide) rfl rfl ?_
      rw [show M 16 7 = s.1.2 0 from h.num (j := 0) (by decide)]
      refine x_iret hO hR dX3_total_91 rfl ?_
      exact ⟨rfl, rfl⟩
    · refine x_tableIn (tgt := 92) hO dX3_total_1 (by decide) (by decide) (show _ = some 91 by decide) (by decide) ?_
      refine x_aload_n hO dX3_total_92 rfl rfl ?_
      refine x_getR (T := TX3) (j := 0) hO dX3_total_93 flX3_10 (by decide) rfl rfl (by decide) rfl rfl ?_
      refine x_getNI (T := TX1) (j := 9) hO dX3_total_96 flX3_189 (by decide) rfl rfl (by decide) rfl rfl ?_
      rw [show M 16 9 = s.1.2 2 from h.num (j := 2) (by decide)]
      refine x_iret hO hR dX3_total_99 rfl ?_
      exact ⟨rfl, rfl⟩
    · refine x_tableIn (tgt := 100) hO dX3_total_1 (by decide) (by decide) (show _ = some 99 by decide) (by decide) ?_
      refine x_aload_n hO dX3_total_100 rfl rfl ?_
      refine x_getR (T := TX3) (j := 0) hO dX3_total_101 flX3_10 (by decide) rfl rfl (by decide) rfl rfl ?_
      refine x_getNI (T := TX1) (j := 10) hO dX3_total_104 flX3_192 (by decide) rfl rfl (by decide) rfl rfl ?_
      rw [show M 16 10 = s.1.2 3 from h.num (j := 3) (by decide)]
      refine x_iret hO hR dX3_total_107 rfl ?_
      exact ⟨rfl, rfl⟩
    · refine x_tableIn (tgt := 108) hO dX3_total_1 (by decide) (by decide) (show _ = some 107 by decide) (by decide) ?_
      refine x_aload_n hO dX3_total_108 rfl rfl ?_
      refine x_getR (T := TX3) (j := 0) hO dX3_total_109 flX3_10 (by decide) rfl rfl (by decide) rfl rfl ?_
      refine x_getNI (T := TX1) (j := 11) hO dX3_total_112 flX3_195 (by decide) rfl rfl (by decide) rfl rfl ?_
      rw [show M 16 11 = s.1.2 4 from h.num (j := 4) (by decide)]
      refine x_iret hO hR dX3_total_115 rfl ?_
      exact ⟨rfl, rfl⟩
    · refine x_tableIn (tgt := 116) hO dX3_total_1 (by decide) (by decide) (show _ = some 115 by decide) (by decide) ?_
      refine x_aload_n hO dX3_total_116 rfl rfl ?_
      refine x_getR (T := TX3) (j := 0) hO dX3_total_117 flX3_10 (by decide) rfl rfl (by decide) rfl rfl ?_
      refine x_callV1 hO (k_entriesNeverFound U M) dX3_total_120 lkX3_198 fX1_entriesNeverFound vX1_entriesNeverFound (by decide) rfl rfl rfl rfl rfl (by decide) (Nat.le_of_ble_eq_true rfl) ?_
      rw [h.rows, never_eq]
      refine x_iret hO hR dX3_total_123 rfl ?_
      exact ⟨rfl, rfl⟩
    · refine x_tableIn (tgt := 124) hO dX3_total_1 (by decide) (by decide) (show _ = some 123 by decide) (by decide) ?_
      refine x_aload_n hO dX3_total_124 rfl rfl ?_
      refine x_getR (T := TX3) (j := 0) hO dX3_total_125 flX3_10 (by decide) rfl rfl (by decide) rfl rfl ?_
      refine x_iconst (v := (-1 : Int32)) hO dX3_total_128 rfl ?_
      refine x_callV1 hO (k_keysFinding U M (-1)) dX3_total_129 lkX3_177 fX1_keysFinding vX1_keysFinding (by decide) rfl rfl rfl rfl rfl (by decide) (Nat.le_of_ble_eq_true rfl) ?_
      rw [h.rows]
      refine x_iret hO hR dX3_total_132 rfl ?_
      exact ⟨rfl, rfl⟩
    · refine x_tableIn (tgt := 133) hO dX3_total_1 (by decide) (by decide) (show _ = some 132 by decide) (by decide) ?_
      refine x_aload_n hO dX3_total_133 rfl rfl ?_
      refine x_getR (T := TX3) (j := 2) hO dX3_total_134 flX3_22 (by decide) rfl rfl (by decide) rfl rfl ?_
      refine x_getNI (T := TX0) (j := 2) hO dX3_total_137 flX3_128 (by decide) rfl rfl (by decide) rfl rfl ?_
      rw [h6]
      refine x_iret hO hR dX3_total_140 rfl ?_
      exact ⟨by show nI c = nI s.2.2.1.length; rw [h7]; simp, rfl⟩
    · refine x_tableIn (tgt := 141) hO dX3_total_1 (by decide) (by decide) (show _ = some 140 by decide) (by decide) ?_
      refine x_aload_n hO dX3_total_141 rfl rfl ?_
      refine x_getR (T := TX3) (j := 3) hO dX3_total_142 flX3_29 (by decide) rfl rfl (by decide) rfl rfl ?_
      refine x_getNI (T := TX2) (j := 1) hO dX3_total_145 flX3_107 (by decide) rfl rfl (by decide) rfl rfl ?_
      rw [h31]
      refine x_iret hO hR dX3_total_148 rfl ?_
      exact ⟨by show nI n = nI s.2.2.2.1; rw [e1], rfl⟩
  · have hbig : x.toInt < 0 ∨ 10 < x.toInt := by omega
    refine x_tableOut (tgt := 149) hO dX3_total_1 hbig (by decide) ?_
    refine x_bipush (v := (-2 : Int32)) hO dX3_total_149 rfl ?_
    refine x_iret hO hR dX3_total_151 rfl ?_
    refine ⟨?_, rfl⟩
    unfold q_total
    have ne : ∀ k : Nat, k ≤ 10 → x ≠ nI k := by
      rintro k hk rfl
      rw [nI_toInt (by omega)] at hbig
      omega
    rw [if_neg (ne 0 (by decide)), if_neg (ne 1 (by decide)), if_neg (ne 2 (by decide)), if_neg (ne 3 (by decide)), if_neg (ne 4 (by decide)), if_neg (ne 5 (by decide)), if_neg (ne 6 (by decide)), if_neg (ne 7 (by decide)), if_neg (ne 8 (by decide)), if_neg (ne 9 (by decide)), if_neg (ne 10 (by decide))]
end
section
/-! ===== what holds of a memory at all times (began as whole's 31, 33, 34) ===== -/
/-- the ranks stand in their order -/
def srt (A : aR) : Prop := ∀ s t, s < t → aoc A s = true → aoc A t = true → A s 4 ≤ A t 4
theorem srt_pb {A : aR} (h : srt A) (hge : ∀ s, 32 ≤ s → aoc A s = false) (r : Int32) : aP A r ≤ aB A r := by
  rcases Nat.lt_or_ge (aB A r) (aP A r) with q | q
  · exfalso
    have hp := aP_le A r
    obtain ⟨j, hj⟩ : ∃ j, aP A r = j + 1 := ⟨aP A r - 1, by omega⟩
    have h1 := nL_yes (P := pUp A r) (n := 32) hj
    have h2 := nF_yes (P := pBy A r) 32 0 (by show aB A r < 0 + 32; omega)
    simp only [pUp, pBy, Bool.and_eq_true, decide_eq_true_eq] at h1 h2
    have h2 : aoc A (aB A r) = true ∧ r < A (aB A r) 4 := h2
    rcases Nat.lt_trichotomy (aB A r) j with z | z | z
    · have := h (aB A r) j z h2.1 h1.1
      exact Int32.lt_irrefl (Int32.lt_of_lt_of_le h2.2 (Int32.le_trans this h1.2))
    · rw [z] at h2
      exact Int32.lt_irrefl (Int32.lt_of_lt_of_le h2.2 h1.2)
    · omega
  · exact q
/-! ===== blocks: at most 14 ===== -/
theorem bsz_spec (f h : Nat) : ∀ d i, (i = 0 ∨ (f % 2 ^ i = 0 ∧ f + 2 ^ i - 1 ≤ h)) → ∃ j, i ≤ j ∧ j ≤ i + d ∧ bsz f h (2 ^ i) d = 2 ^ j ∧ (j = 0 ∨ (f % 2 ^ j = 0 ∧ f + 2 ^ j - 1 ≤ h)) ∧ (j = i + d ∨ ¬ (f % 2 ^ (j + 1) = 0 ∧ f + 2 ^ (j + 1) - 1 ≤ h))
  | 0, i, h0 => ⟨i, Nat.le_refl _, Nat.le_refl _, rfl, h0, Or.inl rfl⟩
  | d + 1, i, h0 => by
    have e : 2 * 2 ^ i = 2 ^ (i + 1) := by rw [Nat.pow_succ, Nat.mul_comm]
    simp only [bsz, e]
    split
    · rename_i q
      obtain ⟨j, j1, j2, j3, j4, j5⟩ := bsz_spec f h d (i + 1) (Or.inr q)
      refine ⟨j, by omega, by omega, j3, j4, ?_⟩
      rcases j5 with z | z
      · exact Or.inl (by omega)
      · exact Or.inr z
    · rename_i q
      exact ⟨i, Nat.le_refl _, by omega, rfl, h0, Or.inr q⟩
theorem bS_spec {f h : Nat} (hf : f ≤ h) : ∃ j, j ≤ 8 ∧ bS f h = 2 ^ j ∧ f % 2 ^ j = 0 ∧ f + 2 ^ j ≤ h + 1 ∧ (j = 8 ∨ ¬ (f % 2 ^ (j + 1) = 0 ∧ f + 2 ^ (j + 1) - 1 ≤ h)) := by
  obtain ⟨j, -, j2, j3, j4, j5⟩ := bsz_spec f h 8 0 (Or.inl rfl)
  have hp : 0 < 2 ^ j := Nat.pow_pos (by decide)
  refine ⟨j, by omega, j3, ?_, ?_, ?_⟩
  · rcases j4 with rfl | z
    · exact Nat.mod_one _
    · exact z.1
  · rcases j4 with rfl | z
    · omega
    · omega
  · rcases j5 with z | z
    · exact Or.inl (by omega)
    · exact Or.inr z
/-- where the keys go on behind d blocks -/
def bPos (h : Nat) : Nat → Nat → Nat
  | f, 0 => f
  | f, d + 1 => if h < f then f else bPos h (f + bS f h) d
theorem bPos_stop {h f : Nat} (q : h < f) : ∀ d, bPos h f d = f
  | 0 => rfl
  | d + 1 => by simp only [bPos]; rw [if_pos q]
theorem bPos_more {h : Nat} : ∀ {d f : Nat}, h < bPos h f d → h < bPos h f (d + 1)
  | 0, f, q => by
    have q : h < f := q
    rw [bPos_stop q]
    exact q
  | d + 1, f, q => by
    rcases Nat.lt_or_ge h f with z | z
    · rw [bPos_stop z]
      exact z
    · have e : ∀ k, bPos h f (k + 1) = bPos h (f + bS f h) k := fun k => by simp only [bPos]; rw [if_neg (by omega)]
      rw [e] at q ⊢
      exact bPos_more q
theorem bPos_mono {h f d e : Nat} (hde : d ≤ e) (q : h < bPos h f d) : h < bPos h f e := by
  induction e with
  | zero => obtain rfl : d = 0 := (by omega); exact q
  | succ e ih =>
    rcases Nat.lt_or_ge e d with z | z
    · obtain rfl : d = e + 1 := (by omega)
      exact q
    · exact bPos_more (ih z)
theorem pow_mod {f i j : Nat} (hij : i ≤ j) (h : f % 2 ^ j = 0) : f % 2 ^ i = 0 := Nat.mod_eq_zero_of_dvd (Nat.dvd_trans (Nat.pow_dvd_pow 2 hij) (Nat.dvd_of_mod_eq_zero h))
/-- the block's size, where it is told by f's zeros or by the room -/
theorem bS_is {f h k : Nat} (hf : f ≤ h) (hk : k ≤ 8) (h1 : f % 2 ^ k = 0) (h2 : f + 2 ^ k ≤ h + 1) (h3 : f % 2 ^ (k + 1) ≠ 0 ∨ h + 1 < f + 2 ^ (k + 1)) : bS f h = 2 ^ k := by
  obtain ⟨j, j1, j2, j3, j4, j5⟩ := bS_spec hf
  rcases Nat.lt_trichotomy j k with z | z | z
  · exfalso
    have p : 2 ^ (j + 1) ≤ 2 ^ k := Nat.pow_le_pow_right (by decide) z
    rcases j5 with y | y
    · omega
    · exact y ⟨pow_mod z h1, by omega⟩
  · rw [j2, z]
  · exfalso
    have p : 2 ^ (k + 1) ≤ 2 ^ j := Nat.pow_le_pow_right (by decide) z
    rcases h3 with y | y
    · exact y (pow_mod z j3)
    · omega
theorem bPos_dn : ∀ k, k ≤ 8 → ∀ f h, f % 2 ^ k = 0 → f ≤ h + 1 → h + 1 < f + 2 ^ k → h < bPos h f k
  | 0, _, f, h, _, h2, h3 => by
    show h < f
    have : 2 ^ 0 = 1 := rfl
    omega
  | k + 1, hk, f, h, h1, h2, h3 => by
    rcases Nat.lt_or_ge h f with z | z
    · rw [bPos_stop z]
      exact z
    · rcases Nat.lt_or_ge (h + 1) (f + 2 ^ k) with y | y
      · exact bPos_more (bPos_dn k (by omega) f h (pow_mod (by omega) h1) h2 y)
      · have e := bS_is z (by omega : k ≤ 8) (pow_mod (by omega) h1) y (Or.inr h3)
        simp only [bPos]
        rw [if_neg (by omega), e]
        have p : 2 ^ (k + 1) = 2 ^ k + 2 ^ k := by rw [Nat.pow_succ]; omega
        refine bPos_dn k (by omega) _ h ?_ (by omega) (by omega)
        rw [Nat.add_mod_right]
        exact pow_mod (by omega) h1
theorem bPos_up : ∀ i, i ≤ 8 → ∀ f h, 0 < f → f % 2 ^ (8 - i) = 0 → h < 256 → f ≤ h + 1 → h < bPos h f (if i = 0 then 0 else 6 + i)
  | 0, _, f, h, h0, h1, h2, h3 => by
    show h < f
    have : f % 256 = 0 := h1
    omega
  | i + 1, hi, f, h, h0, h1, h2, h3 => by
    have ej : 8 - i = 8 - (i + 1) + 1 := by omega
    have ih := bPos_up i (by omega)
    rw [ej] at ih
    generalize hj : 8 - (i + 1) = j at *
    rw [if_neg (by omega)]
    by_cases q : f % 2 ^ (j + 1) = 0
    · exact bPos_mono (by split <;> omega) (ih f h h0 q h2 h3)
    · rcases Nat.lt_or_ge h f with z | z
      · rw [bPos_stop z]
        exact z
      · rcases Nat.lt_or_ge (h + 1) (f + 2 ^ j) with y | y
        · exact bPos_mono (by omega) (bPos_dn j (by omega) f h h1 h3 y)
        · have e := bS_is z (by omega : j ≤ 8) h1 y (Or.inl q)
          rw [show 6 + (i + 1) = (6 + i) + 1 by omega]
          simp only [bPos]
          rw [if_neg (by omega), e]
          refine bPos_mono (by split <;> omega) (ih (f + 2 ^ j) h (by omega) ?_ h2 y)
          have p : 2 ^ (j + 1) = 2 ^ j * 2 := Nat.pow_succ ..
          rw [p] at q ⊢
          obtain ⟨c, hc⟩ := Nat.dvd_of_mod_eq_zero h1
          subst hc
          rw [Nat.mul_mod_mul_left] at q
          rw [show 2 ^ j * c + 2 ^ j = 2 ^ j * (c + 1) by rw [Nat.mul_add, Nat.mul_one], Nat.mul_mod_mul_left]
          have : (c + 1) % 2 = 0 := by
            have : c % 2 ≠ 0 := fun w => q (by rw [w]; rfl)
            omega
          rw [this]
          rfl
theorem bPos_14 {f h : Nat} (h2 : h < 256) (h3 : f ≤ h + 1) : h < bPos h f 14 := by
  rcases Nat.eq_zero_or_pos f with rfl | q
  · rcases Nat.lt_or_ge (h + 1) 256 with z | z
    · exact bPos_mono (by decide) (bPos_dn 8 (by decide) 0 h rfl h3 (by omega))
    · obtain rfl : h = 255 := by omega
      decide
  · have := bPos_up 8 (by decide) f h q (by rw [show 8 - 8 = 0 from rfl]; exact Nat.mod_one _) h2 h3
    exact this
theorem and_hi : ∀ k, k < 9 → ∀ f, f < 256 → f % 2 ^ k = 0 → f &&& (256 - 2 ^ k) = f := by decide +kernel
theorem bS_and {f h : Nat} (hf : f ≤ h) (hh : h < 256) : nI f &&& nI (256 - bS f h) = nI f := by
  obtain ⟨j, j1, j2, j3, j4, -⟩ := bS_spec hf
  rw [nI_and (by omega) (by omega), j2, and_hi j (by omega) f (by omega) j3]
theorem bS_and2 {f h : Nat} (hf : f ≤ h) (hh : h < 256) : f &&& (256 - bS f h) = f := by
  obtain ⟨j, j1, j2, j3, j4, -⟩ := bS_spec hf
  rw [j2, and_hi j (by omega) f (by omega) j3]
/-! ===== what holds of a memory at all times ===== -/
def wfA (A : aR) (a : Nat) : Prop := srt A ∧ (∀ s, 32 ≤ s → A s = eR) ∧ (∀ s, aoc A s = false → A s = eR) ∧ (∀ s, aoc A s = true → (∃ r, r < a ∧ A s 0 = nI r) ∧ (∃ m v, m < 256 ∧ v < 256 ∧ A s 2 = nI m ∧ A s 3 = nI v ∧ v &&& m = v) ∧ ∃ t, aoc A t = true ∧ A t 0 = A s 0 ∧ A t 1 = 0) ∧ ∀ s t, aoc A s = true → aoc A t = true → A s 0 = A t 0 → A s 1 = A t 1 → s = t
def Wf (x : aSt) (B : Nat) : Prop := ∃ a, a ≤ B ∧ x.2 1 = nI a ∧ wfA x.1 a
theorem wfA.up {A : aR} {a b : Nat} (h : wfA A a) (hab : a ≤ b) : wfA A b := ⟨h.1, h.2.1, h.2.2.1, fun s hs => by
  obtain ⟨⟨r, r1, r2⟩, x⟩ := h.2.2.2.1 s hs
  exact ⟨⟨r, by omega, r2⟩, x⟩, h.2.2.2.2⟩
theorem Wf.up {x : aSt} {B C : Nat} (h : Wf x B) (hBC : B ≤ C) : Wf x C := by
  obtain ⟨a, a1, a2⟩ := h
  exact ⟨a, by omega, a2⟩
theorem wfA.ge {A : aR} {a : Nat} (h : wfA A a) : ∀ s, 32 ≤ s → aoc A s = false := fun s hs => aoc_eR (h.2.1 s hs)
theorem wfA.lt {A : aR} {a s : Nat} (h : wfA A a) (hs : aoc A s = true) : s < 32 := by
  rcases Nat.lt_or_ge s 32 with q | q
  · exact q
  · rw [h.ge s q] at hs
    cases hs
/-- where the rows come from when one is added -/
theorem aAdd_src {A : aR} (P r : Int32) (row : Nat → Int32) (h : aCnt A < 32) (hpb : aP A r ≤ aB A r) : ∃ src : Nat → Nat, (∀ s, s ≠ oS A P r → aAdd A P r row s = A (src s)) ∧ (∀ s s', s < s' → s ≠ oS A P r → s' ≠ oS A P r → src s < src s') ∧ (∀ s, s < oS A P r → aoc A (src s) = true → A (src s) 4 ≤ r) ∧ (∀ s, oS A P r < s → aoc A (src s) = true → src s < 32 → r < A (src s) 4) ∧ (∀ s, 32 ≤ s → src s = s) ∧ ∀ u, aoc A u = true → u < 32 → ∃ s, s < 32 ∧ s ≠ oS A P r ∧ src s = u := by
  have h1 := aP_le A r
  have h2 := aB_le A r
  have lo : ∀ u, u < aB A r → aoc A u = true → A u 4 ≤ r := fun u hu ho => by
    have := nF_no (P := pBy A r) 32 0 u (by omega) hu
    unfold pBy at this
    rw [ho] at this
    simp at this
    exact this
  have hi : ∀ u, aP A r ≤ u → u < 32 → aoc A u = true → r < A u 4 := fun u hu hl ho => by
    have := nL_no (P := pUp A r) hu hl
    unfold pUp at this
    rw [ho] at this
    simp at this
    exact this
  rcases Nat.lt_or_ge (aP A r) (aB A r) with q | q
  · have hs := aPl_lt (P := P) h2 q
    have e : oS A P r = aPl P (aP A r) (aB A r) := by unfold oS; rw [if_pos q]
    have e2 : oA A r = A := by unfold oA; rw [if_pos q]
    rw [e]
    refine ⟨fun s => s, fun s z => by unfold aAdd; rw [e, if_neg z, e2], fun s s' z _ _ => z, fun s z ho => lo s (by omega) ho, fun s z ho hl => hi s (by omega) hl ho, fun s _ => rfl, fun u ho hl => ⟨u, hl, ?_, rfl⟩⟩
    intro z
    have := aGap (A := A) (r := r) (s := u) (by omega) (by omega)
    rw [ho] at this
    cases this
  · have nq : ¬ aP A r < aB A r := by omega
    have h3 := oM_free h h1 q
    have u3 := aMu_33 A (aB A r)
    have d3 := aMd_33 A h1
    by_cases q2 : aMu A (aB A r) ≤ aMd A (aP A r)
    · obtain ⟨a1, a2, a3⟩ := aMu_le (A := A) (f := aB A r) (by omega)
      have e : oS A P r = aB A r := by unfold oS; rw [if_neg nq, if_pos q2]
      have e2 : oA A r = aUp A (aB A r) (aMu A (aB A r)) 0 := by unfold oA; rw [if_neg nq, if_pos q2]
      generalize aMu A (aB A r) = n at *
      rw [e]
      refine ⟨fun s => if aB A r < s ∧ s ≤ aB A r + n then s - 1 else s, fun s z => ?_, fun s s' z z1 z2 => ?_, fun s z ho => ?_, fun s z ho hl => ?_, fun s z => ?_, fun u ho hl => ?_⟩
      · unfold aAdd
        rw [e, if_neg z, e2]
        unfold aUp
        dsimp only
        by_cases y : aB A r < s ∧ s ≤ aB A r + n
        · rw [if_pos (by omega), if_pos y]
        · rw [if_neg (by omega), if_neg (by omega), if_neg y]
      · dsimp only
        split <;> split <;> omega
      · dsimp only at ho ⊢
        rw [if_neg (by omega)] at ho ⊢
        exact lo s z ho
      · dsimp only at ho hl ⊢
        refine hi _ ?_ hl ho
        split <;> omega
      · dsimp only
        rw [if_neg (by omega)]
      · rcases Nat.lt_or_ge u (aB A r) with y | y
        · exact ⟨u, hl, by omega, if_neg (by omega)⟩
        · rcases Nat.lt_or_ge u (aB A r + n) with w | w
          · exact ⟨u + 1, by omega, by omega, by dsimp only; rw [if_pos (by omega)]; omega⟩
          · have : u ≠ aB A r + n := by rintro rfl; rw [a2] at ho; cases ho
            exact ⟨u, hl, by omega, if_neg (by omega)⟩
    · obtain ⟨a1, a2, a3⟩ := aMd_le (A := A) h1 (by omega)
      have e : oS A P r = aP A r - 1 := by unfold oS; rw [if_neg nq, if_neg q2]
      have e2 : oA A r = aDn A (aP A r - 1) (aMd A (aP A r)) (aMd A (aP A r)) := by unfold oA; rw [if_neg nq, if_neg q2]
      generalize aMd A (aP A r) = n at *
      rw [e]
      refine ⟨fun s => if aP A r - 1 - n ≤ s ∧ s < aP A r - 1 then s + 1 else s, fun s z => ?_, fun s s' z z1 z2 => ?_, fun s z ho => ?_, fun s z ho hl => ?_, fun s z => ?_, fun u ho hl => ?_⟩
      · unfold aAdd
        rw [e, if_neg z, e2]
        unfold aDn
        dsimp only
        by_cases y : aP A r - 1 - n ≤ s ∧ s < aP A r - 1
        · rw [if_pos (by omega), if_pos y]
        · rw [if_neg (by omega), if_neg (by omega), if_neg y]
      · dsimp only
        split <;> split <;> omega
      · dsimp only at ho ⊢
        refine lo _ ?_ ho
        split <;> omega
      · dsimp only at ho hl ⊢
        rw [if_neg (by omega)] at ho hl ⊢
        exact hi s (by omega) hl ho
      · dsimp only
        rw [if_neg (by omega)]
      · rcases Nat.lt_or_ge u (aP A r) with y | y
        · rcases Nat.lt_or_ge (aP A r - 1 - n) u with w | w
          · exact ⟨u - 1, by omega, by omega, by dsimp only; rw [if_pos (by omega)]; omega⟩
          · have : u ≠ aP A r - 1 - n := by rintro rfl; rw [a2] at ho; cases ho
            exact ⟨u, hl, by omega, if_neg (by omega)⟩
        · exact ⟨u, hl, by omega, if_neg (by omega)⟩
theorem wfA.ins {A : aR} {a : Nat} (w : wfA A a) (P k : Int32) {row : Nat → Int32} (h : aCnt A < 32) {r : Nat} (hr : r < a) (ha : a < 2 ^ 31) (h0 : row 0 = nI r) (h4 : row 4 = k) {m v : Nat} (hm : m < 256) (hv : v < 256) (h2 : row 2 = nI m) (h3 : row 3 = nI v) (hvm : v &&& m = v) (hnew : ∀ s, aoc A s = true → ¬ (A s 0 = row 0 ∧ A s 1 = row 1)) (hz : row 1 = 0 ∨ ∃ t, aoc A t = true ∧ A t 0 = row 0 ∧ A t 1 = 0) : wfA (aAdd A P k row) a := by
  obtain ⟨src, c1, c2, c3, c4, c5, c6⟩ := aAdd_src P k row h (srt_pb w.1 w.ge k)
  have hlt := oS_lt P k h
  have hrow : aAdd A P k row (oS A P k) = row := by unfold aAdd; rw [if_pos rfl]
  have orow : aoc (aAdd A P k row) (oS A P k) = true := by
    unfold aoc
    rw [hrow, h0]
    simpa using nI_m1 (n := r) (by omega)
  have osrc : ∀ s, s ≠ oS A P k → aoc (aAdd A P k row) s = aoc A (src s) := fun s z => by unfold aoc; rw [c1 s z]
  generalize hB : aAdd A P k row = B at *
  generalize oS A P k = t at *
  refine ⟨fun s s' z o1 o2 => ?_, fun s z => ?_, fun s o => ?_, fun s o => ?_, fun s s' o1 o2 e0 e1 => ?_⟩
  · by_cases y1 : s = t
    · subst y1
      have y2 : s' ≠ s := by omega
      rw [osrc s' y2] at o2
      rw [hrow, c1 s' y2, h4]
      exact Int32.le_of_lt (c4 s' z o2 (w.lt o2))
    · rw [osrc s y1] at o1
      by_cases y2 : s' = t
      · subst y2
        rw [hrow, c1 s y1, h4]
        exact c3 s z o1
      · rw [osrc s' y2] at o2
        rw [c1 s y1, c1 s' y2]
        exact w.1 _ _ (c2 s s' z y1 y2) o1 o2
  · rw [c1 s (by omega), c5 s z]
    exact w.2.1 s z
  · have y : s ≠ t := by rintro rfl; rw [orow] at o; cases o
    rw [osrc s y] at o
    rw [c1 s y]
    exact w.2.2.1 _ o
  · by_cases y : s = t
    · subst y
      rw [hrow]
      refine ⟨⟨r, hr, h0⟩, ⟨m, v, hm, hv, h2, h3, hvm⟩, ?_⟩
      rcases hz with z | ⟨u, u1, u2, u3⟩
      · exact ⟨s, orow, by rw [hrow], by rw [hrow]; exact z⟩
      · obtain ⟨s2, -, n2, e2⟩ := c6 u u1 (w.lt u1)
        exact ⟨s2, by rw [osrc s2 n2, e2]; exact u1, by rw [c1 s2 n2, e2]; exact u2, by rw [c1 s2 n2, e2]; exact u3⟩
    · rw [osrc s y] at o
      rw [c1 s y]
      obtain ⟨x1, x2, u, u1, u2, u3⟩ := w.2.2.2.1 _ o
      obtain ⟨s2, -, n2, e2⟩ := c6 u u1 (w.lt u1)
      exact ⟨x1, x2, s2, by rw [osrc s2 n2, e2]; exact u1, by rw [c1 s2 n2, e2]; exact u2, by rw [c1 s2 n2, e2]; exact u3⟩
  · by_cases y1 : s = t
    · subst y1
      by_cases y2 : s' = s
      · exact y2.symm
      · rw [osrc s' y2] at o2
        rw [hrow, c1 s' y2] at e0 e1
        exact absurd ⟨e0.symm, e1.symm⟩ (hnew _ o2)
    · rw [osrc s y1] at o1
      by_cases y2 : s' = t
      · subst y2
        rw [hrow, c1 s y1] at e0 e1
        exact absurd ⟨e0, e1⟩ (hnew _ o1)
      · rw [osrc s' y2] at o2
        rw [c1 s y1, c1 s' y2] at e0 e1
        have := w.2.2.2.2 _ _ o1 o2 e0 e1
        rcases Nat.lt_trichotomy s s' with z | z | z
        · have := c2 s s' z y1 y2
          omega
        · exact z
        · have := c2 s' s z y2 y1
          omega
end
section
theorem rowOf_wf (r p m v k a : Int32) : rowOf r p m v k a 0 = r ∧ rowOf r p m v k a 1 = p ∧ rowOf r p m v k a 2 = m ∧ rowOf r p m v k a 3 = v &&& m ∧ rowOf r p m v k a 4 = k := ⟨rfl, rfl, rfl, rfl, rfl⟩
theorem and_and (v m : Nat) : (v &&& m) &&& m = v &&& m := by rw [Nat.and_assoc, Nat.and_self]
theorem wf_addS {x : aSt} {B : Nat} (w : Wf x B) (hB : B < 1000000) (h : aCnt x.1 < 32) {v m : Nat} (hv : v < 256) (hm : m < 256) (k a : Int32) : Wf (addS x (nI v) (nI m) k a) (B + 1) := by
  obtain ⟨a0, l0, e0, w⟩ := w
  refine ⟨a0 + 1, by omega, ?_, ?_⟩
  · unfold addS
    dsimp only
    rw [upd_at, if_neg (by decide), upd_at, if_pos rfl, e0, nI_add]
  · have hvm : v &&& m < 256 := Nat.lt_of_le_of_lt Nat.and_le_left hv
    refine (w.up (Nat.le_succ a0)).ins (x.2 0) k h (r := a0) (by omega) (by omega) e0 rfl (m := m) (v := v &&& m) hm hvm rfl ?_ (and_and v m) (fun s hs z => ?_) (Or.inl rfl)
    · exact nI_and (by omega) (by omega)
    · obtain ⟨⟨r, r1, r2⟩, -⟩ := w.2.2.2.1 s hs
      have z0 : x.1 s 0 = x.2 1 := z.1
      rw [r2, e0] at z0
      have := (nI_eq (by omega) (by omega)).mp z0
      omega
theorem aBlk_wf {P k a : Int32} {a0 h : Nat} (hh : h < 256) (ha : a0 < 1000000) : ∀ (d part f : Nat) (x : aR × Int32), part + d ≤ 1000 → f ≤ h + 1 → aCnt x.1 + bCn h f d ≤ 32 → wfA x.1 (a0 + 1) → (∀ s, aoc x.1 s = true → x.1 s 0 = nI a0 → ∃ j, j < part ∧ x.1 s 1 = nI j) → (part = 0 ∨ ∃ t, aoc x.1 t = true ∧ x.1 t 0 = nI a0 ∧ x.1 t 1 = 0) → wfA (aBlk P k a (nI a0) h d part f x).1 (a0 + 1) ∧ aCnt (aBlk P k a (nI a0) h d part f x).1 = aCnt x.1 + bCn h f d
  | 0, part, f, x, _, _, _, w, _, _ => ⟨w, rfl⟩
  | d + 1, part, f, x, hp, hf, hc, w, h1, h2 => by
    simp only [aBlk, bCn] at hc ⊢
    by_cases q : h < f
    · rw [if_pos q, if_pos q]
      exact ⟨w, rfl⟩
    · rw [if_neg q] at hc
      rw [if_neg q, if_neg q]
      have hbl := bS_le f h
      have hfit := bS_fit (f := f) (h := h) (by omega)
      have hlt : aCnt x.1 < 32 := by omega
      have hrn : rowOf (nI a0) (nI part) (nI (256 - bS f h)) (nI f) k a 0 ≠ -1 := nI_m1 (by omega)
      have hcn := aCnt_add P k hlt hrn
      obtain ⟨src, c1, c2, c3, c4, c5, c6⟩ := aAdd_src P k (rowOf (nI a0) (nI part) (nI (256 - bS f h)) (nI f) k a) hlt (srt_pb w.1 w.ge k)
      have w2 : wfA (aAdd x.1 P k (rowOf (nI a0) (nI part) (nI (256 - bS f h)) (nI f) k a)) (a0 + 1) := by
        refine w.ins P k hlt (r := a0) (by omega) (by omega) rfl rfl (m := 256 - bS f h) (v := f) (by omega) (by omega) rfl ?_ (bS_and2 (by omega) hh) (fun s hs z => ?_) ?_
        · exact bS_and (by omega) hh
        · obtain ⟨j, j1, j2⟩ := h1 s hs z.1
          have z1 : x.1 s 1 = nI part := z.2
          rw [j2] at z1
          have := (nI_eq (by omega) (by omega)).mp z1
          omega
        · rcases h2 with z | z
          · subst z
            exact Or.inl rfl
          · exact Or.inr z
      have hrow : aAdd x.1 P k (rowOf (nI a0) (nI part) (nI (256 - bS f h)) (nI f) k a) (oS x.1 P k) = rowOf (nI a0) (nI part) (nI (256 - bS f h)) (nI f) k a := by unfold aAdd; rw [if_pos rfl]
      generalize hA2 : aAdd x.1 P k (rowOf (nI a0) (nI part) (nI (256 - bS f h)) (nI f) k a) = A2 at *
      have ih := aBlk_wf (P := P) (k := k) (a := a) hh ha d (part + 1) (f + bS f h) (A2, x.2 + nI (oM x.1 k)) (by omega) (by omega) (by show aCnt A2 + _ ≤ 32; omega) w2 (fun s hs z => ?_) (Or.inr ?_)
      · refine ⟨ih.1, ?_⟩
        rw [ih.2]
        show aCnt A2 + _ = _
        omega
      · have hs : aoc A2 s = true := hs
        have z : A2 s 0 = nI a0 := z
        show ∃ j, j < part + 1 ∧ A2 s 1 = nI j
        by_cases y : s = oS x.1 P k
        · subst y
          rw [hrow]
          exact ⟨part, by omega, rfl⟩
        · have o2 : aoc x.1 (src s) = true := by unfold aoc at hs ⊢; rw [c1 s y] at hs; exact hs
          rw [c1 s y] at z ⊢
          obtain ⟨j, j1, j2⟩ := h1 _ o2 z
          exact ⟨j, by omega, j2⟩
      · show ∃ t, aoc A2 t = true ∧ A2 t 0 = nI a0 ∧ A2 t 1 = 0
        rcases h2 with z | ⟨t, t1, t2, t3⟩
        · subst z
          refine ⟨oS x.1 P k, ?_, by rw [hrow]; rfl, by rw [hrow]; rfl⟩
          unfold aoc
          rw [hrow]
          simpa using hrn
        · obtain ⟨s2, -, n2, e2⟩ := c6 t t1 (w.lt t1)
          refine ⟨s2, ?_, by rw [c1 s2 n2, e2]; exact t2, by rw [c1 s2 n2, e2]; exact t3⟩
          unfold aoc
          rw [c1 s2 n2, e2]
          exact t1
theorem wf_blkS {x : aSt} {B : Nat} (w : Wf x B) (hB : B < 1000000) {f h : Nat} (hf : f ≤ h) (hh : h < 256) (hc : aCnt x.1 + bCn h f 14 ≤ 32) (k a : Int32) : Wf (blkS x f h k a) (B + 1) := by
  obtain ⟨a0, l0, e0, w⟩ := w
  refine ⟨a0 + 1, by omega, ?_, ?_⟩
  · unfold blkS
    dsimp only
    rw [upd_at, if_neg (by decide), upd_at, if_pos rfl, e0, nI_add]
  · unfold blkS
    rw [e0]
    refine (aBlk_wf hh (by omega) 14 0 f (x.1, x.2 2) (by omega) (by omega) hc (w.up (Nat.le_succ a0)) (fun s hs z => ?_) (Or.inl rfl)).1
    obtain ⟨⟨r, r1, r2⟩, -⟩ := w.2.2.2.1 s hs
    have z : x.1 s 0 = nI a0 := z
    rw [r2] at z
    have := (nI_eq (by omega) (by omega)).mp z
    omega
theorem wfA.drop {A : aR} {a : Nat} (w : wfA A a) (x : Int32) : wfA (aDrop A x) a := by
  have ho : ∀ s, aoc (aDrop A x) s = true → aDrop A x s = A s ∧ aoc A s = true ∧ A s 0 ≠ x := by
    intro s hs
    by_cases q : A s 0 = x
    · have e : aDrop A x s = eR := by unfold aDrop; rw [if_pos q]
      rw [aoc_eR e] at hs
      cases hs
    · have e : aDrop A x s = A s := by unfold aDrop; rw [if_neg q]
      refine ⟨e, ?_, q⟩
      unfold aoc at hs ⊢
      rw [e] at hs
      exact hs
  refine ⟨fun s t z o1 o2 => ?_, fun s hs => ?_, fun s hs => ?_, fun s hs => ?_, fun s t o1 o2 e0 e1 => ?_⟩
  · obtain ⟨a1, a2, -⟩ := ho s o1
    obtain ⟨b1, b2, -⟩ := ho t o2
    rw [a1, b1]
    exact w.1 s t z a2 b2
  · unfold aDrop
    rw [w.2.1 s hs]
    split <;> rfl
  · unfold aDrop
    split
    · rfl
    · rename_i q
      refine w.2.2.1 s ?_
      unfold aoc at hs ⊢
      unfold aDrop at hs
      rw [if_neg q] at hs
      exact hs
  · obtain ⟨a1, a2, a3⟩ := ho s hs
    rw [a1]
    obtain ⟨x1, x2, t, t1, t2, t3⟩ := w.2.2.2.1 s a2
    have e : aDrop A x t = A t := by unfold aDrop; rw [if_neg (by rw [t2]; exact a3)]
    refine ⟨x1, x2, t, ?_, by rw [e]; exact t2, by rw [e]; exact t3⟩
    unfold aoc
    rw [e]
    exact t1
  · obtain ⟨a1, a2, -⟩ := ho s o1
    obtain ⟨b1, b2, -⟩ := ho t o2
    rw [a1, b1] at e0 e1
    exact w.2.2.2.2 s t a2 b2 e0 e1
theorem nC_ex {P : Nat → Bool} : ∀ {n p : Nat}, p < nC P n → ∃ s, s < n ∧ P s = true ∧ nC P s = p
  | 0, p, h => by simp [nC] at h
  | n + 1, p, h => by
    by_cases q : p < nC P n
    · obtain ⟨s, s1, s2, s3⟩ := nC_ex q
      exact ⟨s, by omega, s2, s3⟩
    · cases e : P n with
      | false => rw [nC_f e] at h; omega
      | true => rw [nC_t e] at h; exact ⟨n, by omega, e, by omega⟩
theorem kth_ok {A : aR} {p : Nat} (h : p < aCnt A) : kth A p < 32 ∧ aoc A (kth A p) = true ∧ nC (aoc A) (kth A p) = p := by
  obtain ⟨s, s1, s2, s3⟩ := nC_ex (P := aoc A) (n := 32) h
  have e := kth_at s1 s2
  rw [s3] at e
  rw [e]
  exact ⟨s1, s2, s3⟩
theorem kth_lt {A : aR} {p q : Nat} (hq : q < aCnt A) (h : p < q) : kth A p < kth A q := by
  obtain ⟨-, -, p3⟩ := kth_ok (A := A) (p := p) (by omega)
  obtain ⟨-, -, q3⟩ := kth_ok hq
  rcases Nat.lt_or_ge (kth A p) (kth A q) with z | z
  · exact z
  · have := nC_mono (P := aoc A) z
    omega
theorem aSp_at {A : aR} {n : Nat} (hn : n ≤ 32) {s : Nat} (h : aoc (aSp A n) s = true) : ∃ p, p < aCnt A ∧ aTg n p = s ∧ aSp A n s = A (kth A p) := by
  rcases Classical.em (∃ p, p < aCnt A ∧ aTg n p = s) with ⟨p, hp, e⟩ | q
  · exact ⟨p, hp, e, by rw [← e]; exact (aSp_is A hn).1 p hp⟩
  · have := (aSp_is A hn).2 s (fun p hp e => q ⟨p, hp, e⟩)
    rw [aoc_eR this] at h
    cases h
theorem wfA.sp {A : aR} {a n : Nat} (w : wfA A a) (hn : n ≤ 32) (hc : aCnt A ≤ n) : wfA (aSp A n) a := by
  refine ⟨fun s t z o1 o2 => ?_, fun s hs => ?_, fun s hs => ?_, fun s hs => ?_, fun s t o1 o2 e0 e1 => ?_⟩
  · obtain ⟨p, p1, p2, p3⟩ := aSp_at hn o1
    obtain ⟨q, q1, q2, q3⟩ := aSp_at hn o2
    rw [p3, q3]
    have hpq : p < q := by
      rcases Nat.lt_trichotomy p q with y | y | y
      · exact y
      · subst y; omega
      · have := aTg_lt2 hn y
        omega
    exact w.1 _ _ (kth_lt q1 hpq) (kth_ok p1).2.1 (kth_ok q1).2.1
  · refine (aSp_is A hn).2 s (fun p hp e => ?_)
    have := aTg_lt (n := n) (p := p) (by omega)
    omega
  · refine (aSp_is A hn).2 s (fun p hp e => ?_)
    have e2 := (aSp_is A hn).1 p hp
    rw [e] at e2
    have := (kth_ok hp).2.1
    unfold aoc at hs this
    rw [e2, this] at hs
    cases hs
  · obtain ⟨p, p1, p2, p3⟩ := aSp_at hn hs
    rw [p3]
    obtain ⟨x1, x2, t, t1, t2, t3⟩ := w.2.2.2.1 _ (kth_ok p1).2.1
    have ht := w.lt t1
    have hr : nC (aoc A) t < aCnt A := by
      have h1 := nC_mono (P := aoc A) (a := t + 1) (b := 32) (by omega)
      rw [nC_t t1] at h1
      exact h1
    have e := (aSp_is A hn).1 _ hr
    rw [kth_at ht t1] at e
    refine ⟨x1, x2, aTg n (nC (aoc A) t), ?_, by rw [e]; exact t2, by rw [e]; exact t3⟩
    show (!(aSp A n (aTg n (nC (aoc A) t)) 0 == -1)) = true
    rw [e]
    exact t1
  · obtain ⟨p, p1, p2, p3⟩ := aSp_at hn o1
    obtain ⟨q, q1, q2, q3⟩ := aSp_at hn o2
    rw [p3, q3] at e0 e1
    have := w.2.2.2.2 _ _ (kth_ok p1).2.1 (kth_ok q1).2.1 e0 e1
    have h1 := (kth_ok p1).2.2
    rw [this, (kth_ok q1).2.2] at h1
    rw [← p2, ← q2, h1]
theorem wfA.ht {A : aR} {a : Nat} (w : wfA A a) {r : Int32} (hr : r ≠ -1) : wfA (aHt A r) a := by
  have e : ∀ s i, i ≠ 6 → aHt A r s i = A s i := fun s i hi => by unfold aHt; rw [if_neg (fun z => hi z.1)]
  have ho : ∀ s, aoc (aHt A r) s = aoc A s := fun s => by unfold aoc; rw [e s 0 (by decide)]
  have en : ∀ s, aoc A s = false → aHt A r s = A s := fun s hs => by
    funext i
    unfold aHt
    rw [if_neg]
    rintro ⟨-, z, -⟩
    rw [w.2.2.1 s hs] at z
    exact hr z.symm
  refine ⟨fun s t z o1 o2 => ?_, fun s hs => ?_, fun s hs => ?_, fun s hs => ?_, fun s t o1 o2 e0 e1 => ?_⟩
  · rw [ho] at o1 o2
    rw [e s 4 (by decide), e t 4 (by decide)]
    exact w.1 s t z o1 o2
  · rw [en s (w.ge s hs)]
    exact w.2.1 s hs
  · rw [ho] at hs
    rw [en s hs]
    exact w.2.2.1 s hs
  · rw [ho] at hs
    obtain ⟨x1, x2, t, t1, t2, t3⟩ := w.2.2.2.1 s hs
    rw [e s 0 (by decide), e s 2 (by decide), e s 3 (by decide)]
    exact ⟨x1, x2, t, by rw [ho]; exact t1, by rw [e t 0 (by decide)]; exact t2, by rw [e t 1 (by decide)]; exact t3⟩
  · rw [ho] at o1 o2
    rw [e s 0 (by decide), e t 0 (by decide)] at e0
    rw [e s 1 (by decide), e t 1 (by decide)] at e1
    exact w.2.2.2.2 s t o1 o2 e0 e1
theorem wfA.occ {A : aR} {a s : Nat} (w : wfA A a) (ha : a < 2 ^ 31) (h : aoc A s = true) : ∃ r, r < a ∧ A s 0 = nI r := (w.2.2.2.1 s h).1
end
section
/-! ===== counting, one to one ===== -/
theorem nC_rel {R : Nat → Nat → Prop} {P : Nat → Bool} (hR : ∀ i i' j, R i j → R i' j → i = i') : ∀ {m n : Nat} {Q : Nat → Bool}, (∀ i, i < m → P i = true → ∃ j, j < n ∧ Q j = true ∧ R i j) → nC P m ≤ nC Q n
  | 0, _, _, _ => Nat.zero_le _
  | m + 1, n, Q, h => by
    cases e : P m with
    | false =>
      rw [nC_f e]
      exact nC_rel hR (fun i hi hp => h i (by omega) hp)
    | true =>
      rw [nC_t e]
      obtain ⟨u, u1, u2, u3⟩ := h m (by omega) e
      have e2 := nC_ins (P := fun j => Q j && !(j == u)) (Q := Q) (t := u) (by simp) u1 (fun s _ => by
        by_cases z : s = u
        · subst z; simp [u2]
        · have z2 : (s == u) = false := by simpa using z
          show Q s = ((Q s && !(s == u)) || s == u)
          rw [z2]
          simp)
      rw [e2]
      have := nC_rel hR (m := m) (n := n) (P := P) (Q := fun j => Q j && !(j == u)) (fun i hi hp => by
        obtain ⟨j, j1, j2, j3⟩ := h i (by omega) hp
        refine ⟨j, j1, ?_, j3⟩
        have : j ≠ u := by
          rintro rfl
          have := hR _ _ _ j3 u3
          omega
        simp [j2, this])
      omega
theorem nC_bij {P Q : Nat → Bool} {m n : Nat} (f : Nat → Nat) (h1 : ∀ i, i < m → P i = true → f i < n ∧ Q (f i) = true) (h2 : ∀ i j, i < m → j < m → P i = true → P j = true → f i = f j → i = j) (h3 : ∀ u, u < n → Q u = true → ∃ i, i < m ∧ P i = true ∧ f i = u) : nC P m = nC Q n :=
  Nat.le_antisymm (nC_rel (R := fun i j => (i < m ∧ P i = true) ∧ f i = j) (fun i i' j a b => h2 i i' a.1.1 b.1.1 a.1.2 b.1.2 (a.2.trans b.2.symm)) (fun i hi hp => ⟨f i, (h1 i hi hp).1, (h1 i hi hp).2, ⟨hi, hp⟩, rfl⟩)) (nC_rel (R := fun u i => f i = u) (fun u u' i a b => a.symm.trans b) (fun u hu hq => h3 u hu hq))
/-! ===== the order of the entries: ranks, then rules, then parts ===== -/
def ordA (A : aR) : Prop := (∀ s t, s < t → aoc A s = true → aoc A t = true → A s 4 = A t 4 → A s 0 ≤ A t 0) ∧ (∀ s, aoc A s = true → A s 1 = nI (nC (pRule A (A s 0)) s)) ∧ (∀ s t, aoc A s = true → aoc A t = true → A s 0 = A t 0 → A s 4 = A t 4 ∧ A s 5 = A t 5) ∧ ∀ s, aoc A s = true → (∃ k, k < 100 ∧ A s 4 = nI k) ∧ ∃ k, k < 10 ∧ A s 5 = nI k
theorem pRule_iff {A : aR} {x : Int32} {s : Nat} : pRule A x s = true ↔ aoc A s = true ∧ A s 0 = x := by
  unfold pRule
  simp
/-- rows that come from other rows, in the same order -/
theorem pRule_src {A B : aR} {t : Nat} {f : Nat → Nat} (m1 : ∀ s, s ≠ t → B s = A (f s)) {x : Int32} {s : Nat} (h : s ≠ t) : pRule B x s = pRule A x (f s) := by
  unfold pRule aoc
  rw [m1 s h]
theorem nC_src {A B : aR} {t : Nat} {f : Nat → Nat} (m1 : ∀ s, s ≠ t → B s = A (f s)) (m2 : ∀ s s', s < s' → s ≠ t → s' ≠ t → f s < f s') (m3 : ∀ u, aoc A u = true → ∃ s, s ≠ t ∧ f s = u) (x : Int32) {s : Nat} (hs : s ≠ t) : nC (fun i => pRule B x i && !(i == t)) s = nC (pRule A x) (f s) := by
  refine nC_bij f (fun i hi hp => ?_) (fun i j hi hj hpi hpj e => ?_) (fun u hu hq => ?_)
  · simp only [Bool.and_eq_true, Bool.not_eq_true', beq_eq_false_iff_ne] at hp
    exact ⟨m2 i s hi hp.2 hs, by rw [← pRule_src m1 hp.2]; exact hp.1⟩
  · simp only [Bool.and_eq_true, Bool.not_eq_true', beq_eq_false_iff_ne] at hpi hpj
    rcases Nat.lt_trichotomy i j with z | z | z
    · have := m2 i j z hpi.2 hpj.2; omega
    · exact z
    · have := m2 j i z hpj.2 hpi.2; omega
  · obtain ⟨i, i1, i2⟩ := m3 u (pRule_iff.mp hq).1
    refine ⟨i, ?_, ?_, i2⟩
    · rcases Nat.lt_trichotomy i s with z | z | z
      · exact z
      · subst z; omega
      · have := m2 s i z hs i1; omega
    · simp only [Bool.and_eq_true, Bool.not_eq_true', beq_eq_false_iff_ne]
      exact ⟨by rw [pRule_src m1 i1, i2]; exact hq, i1⟩
theorem ordA.ins {A : aR} {a : Nat} (w : wfA A a) (o : ordA A) (P k : Int32) {row : Nat → Int32} (h : aCnt A < 32) (hr : row 0 ≠ -1) (h4 : row 4 = k) (hle : ∀ s, aoc A s = true → A s 0 ≤ row 0) (hsame : ∀ s, aoc A s = true → A s 0 = row 0 → A s 4 = k ∧ A s 5 = row 5) (hp : row 1 = nI (nC (pRule A (row 0)) 32)) (hb4 : ∃ n, n < 100 ∧ row 4 = nI n) (hb5 : ∃ n, n < 10 ∧ row 5 = nI n) : ordA (aAdd A P k row) ∧ nC (pRule (aAdd A P k row) (row 0)) 32 = nC (pRule A (row 0)) 32 + 1 ∧ aAdd A P k row (oS A P k) = row ∧ aoc (aAdd A P k row) (oS A P k) = true ∧ ∀ s, aoc (aAdd A P k row) s = true → s = oS A P k ∨ ∃ u, aoc A u = true ∧ aAdd A P k row s = A u := by
  obtain ⟨f, c1, c2, c3, c4, c5, c6⟩ := aAdd_src P k row h (srt_pb w.1 w.ge k)
  have hlt := oS_lt P k h
  have hrow : aAdd A P k row (oS A P k) = row := by unfold aAdd; rw [if_pos rfl]
  have orow : aoc (aAdd A P k row) (oS A P k) = true := by
    unfold aoc
    rw [hrow]
    simpa using hr
  generalize hB : aAdd A P k row = B at *
  generalize oS A P k = t at *
  have osrc : ∀ s, s ≠ t → aoc B s = aoc A (f s) := fun s z => by unfold aoc; rw [c1 s z]
  have m3 : ∀ u, aoc A u = true → ∃ s, s ≠ t ∧ f s = u := fun u hu => by
    obtain ⟨s, -, n, e⟩ := c6 u hu (w.lt hu)
    exact ⟨s, n, e⟩
  have cnt : ∀ (x : Int32) (s : Nat), s ≠ t → nC (fun i => pRule B x i && !(i == t)) s = nC (pRule A x) (f s) := fun x s z => nC_src c1 c2 m3 x z
  have f32 : f 32 = 32 := c5 32 (Nat.le_refl _)
  have hsplit : ∀ s, t < s → nC (pRule B (row 0)) s = nC (fun i => pRule B (row 0) i && !(i == t)) s + 1 := fun s z => nC_ins (P := fun i => pRule B (row 0) i && !(i == t)) (by simp) z (fun i _ => by
    by_cases y : i = t
    · subst y
      simp [pRule_iff, orow, hrow]
    · have z2 : (i == t) = false := by simpa using y
      show pRule B (row 0) i = ((pRule B (row 0) i && !(i == t)) || i == t)
      rw [z2]
      simp)
  have c32 : nC (pRule B (row 0)) 32 = nC (pRule A (row 0)) 32 + 1 := by
    rw [hsplit 32 hlt, cnt (row 0) 32 (by omega), f32]
  -- behind the new row none has its rule
  have hno : ∀ s, t < s → pRule B (row 0) s = false := fun s z => by
    cases e : pRule B (row 0) s with
    | false => rfl
    | true =>
      exfalso
      obtain ⟨e1, e2⟩ := pRule_iff.mp e
      have y : s ≠ t := by omega
      rw [osrc s y] at e1
      rw [c1 s y] at e2
      have h1 := c4 s z e1 (w.lt e1)
      rw [(hsame _ e1 e2).1] at h1
      exact Int32.lt_irrefl h1
  refine ⟨⟨fun s s' z o1 o2 e => ?_, fun s os => ?_, fun s s' o1 o2 e => ?_, fun s os => ?_⟩, c32, hrow, orow, fun s os => ?_⟩
  · by_cases y1 : s = t
    · subst y1
      have y2 : s' ≠ s := by omega
      rw [osrc s' y2] at o2
      have h1 := c4 s' z o2 (w.lt o2)
      rw [hrow, c1 s' y2, h4] at e
      rw [← e] at h1
      exact absurd h1 Int32.lt_irrefl
    · rw [osrc s y1] at o1
      by_cases y2 : s' = t
      · subst y2
        rw [hrow, c1 s y1]
        exact hle _ o1
      · rw [osrc s' y2] at o2
        rw [c1 s y1, c1 s' y2] at e ⊢
        exact o.1 _ _ (c2 s s' z y1 y2) o1 o2 e
  · by_cases y : s = t
    · subst y
      rw [hrow, hp]
      congr 1
      have h1 := hsplit (s + 1) (by omega)
      rw [nC_t (by rw [pRule_iff]; exact ⟨orow, by rw [hrow]⟩)] at h1
      have h2 : nC (fun i => pRule B (row 0) i && !(i == s)) (s + 1) = nC (fun i => pRule B (row 0) i && !(i == s)) 32 := by
        have hz : ∀ d, nC (fun i => pRule B (row 0) i && !(i == s)) (s + 1 + d) = nC (fun i => pRule B (row 0) i && !(i == s)) (s + 1) := by
          intro d
          induction d with
          | zero => rfl
          | succ d ih =>
            rw [show s + 1 + (d + 1) = (s + 1 + d) + 1 from rfl, nC_f (by rw [hno (s + 1 + d) (by omega)]; rfl), ih]
        rw [← hz (32 - (s + 1)), show s + 1 + (32 - (s + 1)) = 32 by omega]
      rw [h2, cnt (row 0) 32 (by omega), f32] at h1
      omega
    · rw [osrc s y] at os
      have e := o.2.1 _ os
      rw [c1 s y, e]
      congr 1
      rw [← cnt _ s y]
      refine nC_congr (fun i hi => ?_)
      by_cases z : i = t
      · subst z
        have : pRule B (A (f s) 0) i = false := by
          cases q : pRule B (A (f s) 0) i with
          | false => rfl
          | true =>
            exfalso
            have q2 := (pRule_iff.mp q).2
            rw [hrow] at q2
            have h1 := c4 s hi os (w.lt os)
            rw [(hsame _ os q2.symm).1] at h1
            exact Int32.lt_irrefl h1
        rw [this]
        rfl
      · simp [z]
  · by_cases y1 : s = t
    · by_cases y2 : s' = t
      · rw [y1, y2]
        exact ⟨rfl, rfl⟩
      · rw [y1] at e ⊢
        rw [osrc s' y2] at o2
        rw [hrow, c1 s' y2] at e ⊢
        obtain ⟨h1, h2⟩ := hsame _ o2 e.symm
        exact ⟨by rw [h4, h1], h2.symm⟩
    · rw [osrc s y1] at o1
      by_cases y2 : s' = t
      · rw [y2] at e ⊢
        rw [hrow, c1 s y1] at e ⊢
        obtain ⟨h1, h2⟩ := hsame _ o1 e
        exact ⟨by rw [h4, h1], h2⟩
      · rw [osrc s' y2] at o2
        rw [c1 s y1, c1 s' y2] at e ⊢
        exact o.2.2.1 _ _ o1 o2 e
  · by_cases y : s = t
    · rw [y, hrow]
      exact ⟨hb4, hb5⟩
    · rw [osrc s y] at os
      rw [c1 s y]
      exact o.2.2.2 _ os
  · by_cases y : s = t
    · exact Or.inl y
    · rw [osrc s y] at os
      exact Or.inr ⟨f s, os, c1 s y⟩
theorem ordA.drop {A : aR} (o : ordA A) (x : Int32) : ordA (aDrop A x) := by
  have ho : ∀ s, aoc (aDrop A x) s = true → aDrop A x s = A s ∧ aoc A s = true ∧ A s 0 ≠ x := by
    intro s hs
    by_cases q : A s 0 = x
    · have e : aDrop A x s = eR := by unfold aDrop; rw [if_pos q]
      rw [aoc_eR e] at hs
      cases hs
    · have e : aDrop A x s = A s := by unfold aDrop; rw [if_neg q]
      refine ⟨e, ?_, q⟩
      unfold aoc at hs ⊢
      rw [e] at hs
      exact hs
  refine ⟨fun s t z o1 o2 e => ?_, fun s os => ?_, fun s t o1 o2 e => ?_, fun s os => ?_⟩
  · obtain ⟨a1, a2, -⟩ := ho s o1
    obtain ⟨b1, b2, -⟩ := ho t o2
    rw [a1, b1] at e ⊢
    exact o.1 s t z a2 b2 e
  · obtain ⟨a1, a2, a3⟩ := ho s os
    rw [a1, o.2.1 s a2]
    congr 1
    refine nC_congr (fun i _ => ?_)
    by_cases q : A i 0 = x
    · have e : aDrop A x i = eR := by unfold aDrop; rw [if_pos q]
      have h1 : pRule (aDrop A x) (A s 0) i = false := by unfold pRule; rw [aoc_eR e]; rfl
      have h2 : pRule A (A s 0) i = false := by
        cases z : pRule A (A s 0) i with
        | false => rfl
        | true => exact absurd (q.symm.trans (pRule_iff.mp z).2).symm a3
      rw [h1, h2]
    · have e : aDrop A x i = A i := by unfold aDrop; rw [if_neg q]
      unfold pRule aoc
      rw [e]
  · obtain ⟨a1, a2, -⟩ := ho s o1
    obtain ⟨b1, b2, -⟩ := ho t o2
    rw [a1, b1] at e ⊢
    exact o.2.2.1 s t a2 b2 e
  · obtain ⟨a1, a2, -⟩ := ho s os
    rw [a1]
    exact o.2.2.2 s a2
theorem ordA.ht {A : aR} (o : ordA A) (r : Int32) : ordA (aHt A r) := by
  have e : ∀ s i, i ≠ 6 → aHt A r s i = A s i := fun s i hi => by unfold aHt; rw [if_neg (fun z => hi z.1)]
  have ho : ∀ s, aoc (aHt A r) s = aoc A s := fun s => by unfold aoc; rw [e s 0 (by decide)]
  have hp : ∀ x, pRule (aHt A r) x = pRule A x := fun x => by
    funext s
    unfold pRule
    rw [ho, e s 0 (by decide)]
  refine ⟨fun s t z o1 o2 q => ?_, fun s os => ?_, fun s t o1 o2 q => ?_, fun s os => ?_⟩
  · rw [ho] at o1 o2
    rw [e s 4 (by decide), e t 4 (by decide)] at q
    rw [e s 0 (by decide), e t 0 (by decide)]
    exact o.1 s t z o1 o2 q
  · rw [ho] at os
    rw [e s 1 (by decide), e s 0 (by decide), hp]
    exact o.2.1 s os
  · rw [ho] at o1 o2
    rw [e s 0 (by decide), e t 0 (by decide)] at q
    rw [e s 4 (by decide), e t 4 (by decide), e s 5 (by decide), e t 5 (by decide)]
    exact o.2.2.1 s t o1 o2 q
  · rw [ho] at os
    rw [e s 4 (by decide), e s 5 (by decide)]
    exact o.2.2.2 s os
theorem kth_nC {A : aR} {s : Nat} (hs : s < 32) (h : aoc A s = true) : nC (aoc A) s < aCnt A := by
  have h1 := nC_mono (P := aoc A) (a := s + 1) (b := 32) (by omega)
  rw [nC_t h] at h1
  exact h1
theorem kth_inj {A : aR} {p q : Nat} (hp : p < aCnt A) (hq : q < aCnt A) (h : kth A p = kth A q) : p = q := by
  have h1 := (kth_ok hp).2.2
  rw [h, (kth_ok hq).2.2] at h1
  exact h1.symm
theorem aSp_oc {A : aR} {n p : Nat} (hn : n ≤ 32) (hp : p < aCnt A) : aoc (aSp A n) (aTg n p) = true := by
  unfold aoc
  rw [(aSp_is A hn).1 p hp]
  exact (kth_ok hp).2.1
/-- of the entries before the one with the place p, as many are of a rule as before -/
theorem nC_sp {A : aR} {a n : Nat} (w : wfA A a) (hn : n ≤ 32) (x : Int32) {p : Nat} (hp : p < aCnt A) : nC (pRule (aSp A n) x) (aTg n p) = nC (pRule A x) (kth A p) := by
  refine (nC_bij (fun u => aTg n (nC (aoc A) u)) (fun u hu hq => ?_) (fun u v hu hv hpu hpv e => ?_) (fun s hs hq => ?_)).symm
  · obtain ⟨q1, q2⟩ := pRule_iff.mp hq
    have hk := kth_nC (w.lt q1) q1
    have e := (aSp_is A hn).1 _ hk
    have ek := kth_at (w.lt q1) q1
    have lt : nC (aoc A) u < p := by
      rcases Nat.lt_or_ge (nC (aoc A) u) p with z | z
      · exact z
      · rcases Nat.lt_or_ge p (nC (aoc A) u) with y | y
        · have := kth_lt hk y
          rw [ek] at this
          omega
        · have : p = nC (aoc A) u := by omega
          rw [this, ek] at hu
          omega
    refine ⟨aTg_lt2 hn lt, pRule_iff.mpr ⟨aSp_oc hn hk, ?_⟩⟩
    rw [e, ek]
    exact q2
  · have e2 := aTg_inj hn e
    obtain ⟨q1, -⟩ := pRule_iff.mp hpu
    obtain ⟨r1, -⟩ := pRule_iff.mp hpv
    rw [← kth_at (w.lt q1) q1, ← kth_at (w.lt r1) r1, e2]
  · obtain ⟨q1, q2⟩ := pRule_iff.mp hq
    obtain ⟨c, c1, c2, c3⟩ := aSp_at hn q1
    obtain ⟨k1, k2, k3⟩ := kth_ok c1
    refine ⟨kth A c, ?_, pRule_iff.mpr ⟨k2, by rw [← c3]; exact q2⟩, by rw [k3]; exact c2⟩
    rcases Nat.lt_trichotomy c p with z | z | z
    · exact kth_lt hp z
    · subst z; omega
    · have := aTg_lt2 hn z; omega
theorem ordA.sp {A : aR} {a n : Nat} (w : wfA A a) (o : ordA A) (hn : n ≤ 32) : ordA (aSp A n) := by
  refine ⟨fun s t z o1 o2 e => ?_, fun s os => ?_, fun s t o1 o2 e => ?_, fun s os => ?_⟩
  · obtain ⟨p, p1, p2, p3⟩ := aSp_at hn o1
    obtain ⟨q, q1, q2, q3⟩ := aSp_at hn o2
    rw [p3, q3] at e ⊢
    have hpq : p < q := by
      rcases Nat.lt_trichotomy p q with y | y | y
      · exact y
      · subst y; omega
      · have := aTg_lt2 hn y
        omega
    exact o.1 _ _ (kth_lt q1 hpq) (kth_ok p1).2.1 (kth_ok q1).2.1 e
  · obtain ⟨p, p1, p2, p3⟩ := aSp_at hn os
    have e := nC_sp w hn (A (kth A p) 0) p1
    rw [p2] at e
    rw [p3, e]
    exact o.2.1 _ (kth_ok p1).2.1
  · obtain ⟨p, p1, p2, p3⟩ := aSp_at hn o1
    obtain ⟨q, q1, q2, q3⟩ := aSp_at hn o2
    rw [p3, q3] at e ⊢
    exact o.2.2.1 _ _ (kth_ok p1).2.1 (kth_ok q1).2.1 e
  · obtain ⟨p, p1, p2, p3⟩ := aSp_at hn os
    rw [p3]
    exact o.2.2.2 _ (kth_ok p1).2.1
end
section
/-! ===== what holds of the state at all times ===== -/
def Wg (x : aSt) (B : Nat) : Prop := (∃ a, a ≤ B ∧ x.2 1 = nI a ∧ wfA x.1 a) ∧ ordA x.1 ∧ ∃ p, p < 3 ∧ x.2 0 = nI p
theorem Wg.up {x : aSt} {B C : Nat} (h : Wg x B) (hBC : B ≤ C) : Wg x C := by
  obtain ⟨⟨a, a1, a2⟩, o⟩ := h
  exact ⟨⟨a, by omega, a2⟩, o⟩
theorem Wg.rows {x : aSt} {B : Nat} (h : Wg x B) : wfA x.1 B := by
  obtain ⟨⟨a, a1, -, w⟩, -⟩ := h
  exact w.up a1
theorem slot_of {A : aR} {a s : Nat} (w : wfA A a) (hs : aoc A s = true) : nF (pPart A (A s 0) (A s 1)) 0 32 = s := by
  have hp : pPart A (A s 0) (A s 1) s = true := by simp [pPart, hs]
  have hl := w.lt hs
  rcases Nat.lt_trichotomy (nF (pPart A (A s 0) (A s 1)) 0 32) s with z | z | z
  · have h1 := nF_yes (P := pPart A (A s 0) (A s 1)) 32 0 (by omega)
    simp only [pPart, Bool.and_eq_true, beq_iff_eq] at h1
    have := w.2.2.2.2 _ s h1.1 hs h1.2.1 h1.2.2
    omega
  · exact z
  · have := nF_no (P := pPart A (A s 0) (A s 1)) 32 0 s (Nat.zero_le _) z
    rw [hp] at this
    cases this
theorem slot_of' {A : aR} {a s : Nat} (w : wfA A a) (hs : aoc A s = true) {r q : Int32} (hr : A s 0 = r) (hq : A s 1 = q) : nF (pPart A r q) 0 32 = s := by
  subst hr
  subst hq
  exact slot_of w hs
theorem nC_lt {P : Nat → Bool} {s n : Nat} (hs : s < n) (h : P s = true) : nC P s < nC P n := by
  have h1 := nC_mono (P := P) (a := s + 1) (b := n) (by omega)
  rw [nC_t h] at h1
  exact h1
theorem q_of_at {A : aR} {a t : Nat} (w : wfA A a) (ht : aoc A t = true) {r : Int32} (hr : A t 0 = r) (h0 : A t 1 = 0) (j : Nat) : q_of A j r = A t j := by
  have e := slot_of' w ht hr h0
  have hl := w.lt ht
  unfold q_of
  rw [e, if_pos hl]
theorem q_of_45 {A : aR} {a s : Nat} (w : wfA A a) (o : ordA A) (hs : aoc A s = true) : q_of A 4 (A s 0) = A s 4 ∧ q_of A 5 (A s 0) = A s 5 := by
  obtain ⟨-, -, t, t1, t2, t3⟩ := w.2.2.2.1 s hs
  obtain ⟨h1, h2⟩ := o.2.2.1 t s t1 hs t2
  rw [q_of_at w t1 t2 t3 4, q_of_at w t1 t2 t3 5]
  exact ⟨h1, h2⟩
theorem nC_rule_pos {A : aR} {a s : Nat} (w : wfA A a) (hs : aoc A s = true) : 0 < nC (pRule A (A s 0)) 32 := by
  have := nC_lt (P := pRule A (A s 0)) (w.lt hs) (pRule_iff.mpr ⟨hs, rfl⟩)
  omega
theorem q_parts_is {A : aR} {a s : Nat} (w : wfA A a) (hs : aoc A s = true) : q_parts A (A s 0) = nI (nC (pRule A (A s 0)) 32) := by
  have := nC_rule_pos w hs
  unfold q_parts
  rw [if_neg (by omega)]
/-- the slot of the part p of a rule -/
theorem q_slot_at {A : aR} {a : Nat} (w : wfA A a) (o : ordA A) {r : Int32} {p : Nat} (h : p < nC (pRule A r) 32) : ∃ t, t < 32 ∧ aoc A t = true ∧ A t 0 = r ∧ nC (pRule A r) t = p ∧ q_slotOf A r (nI p) = nI t := by
  obtain ⟨t, t1, t2, t3⟩ := nC_ex h
  obtain ⟨h1, h2⟩ := pRule_iff.mp t2
  have e := o.2.1 t h1
  rw [h2, t3] at e
  refine ⟨t, t1, h1, h2, t3, ?_⟩
  unfold q_slotOf aN
  rw [slot_of' w h1 h2 e, if_pos t1]
theorem q_slot_no {A : aR} (o : ordA A) {r : Int32} {p : Nat} (hp : p < 2 ^ 31) (h : nC (pRule A r) 32 ≤ p) : q_slotOf A r (nI p) = -1 := by
  unfold q_slotOf aN
  rw [if_neg]
  intro q
  obtain ⟨h1, h2, h3⟩ := pPart_oc q
  have e := o.2.1 _ h1
  rw [h2, h3] at e
  have hl := nC_lt (P := pRule A r) q (pRule_iff.mpr ⟨h1, h2⟩)
  have := nC_le (pRule A r) 32
  have := (nI_eq (by omega) (by omega)).mp e
  omega
theorem q_slot_0 {A : aR} {a s : Nat} (w : wfA A a) (o : ordA A) (hs : aoc A s = true) : q_slotOf A (A s 0) (nI 0) = nI s ↔ pP0 A s = true := by
  obtain ⟨t, t1, t2, t3, t4, t5⟩ := q_slot_at w o (nC_rule_pos w hs)
  have hl := w.lt hs
  rw [t5]
  constructor
  · intro e
    have := (nI_eq (by omega) (by omega)).mp e
    subst this
    have e := o.2.1 t hs
    rw [t4] at e
    simp [pP0, hs, e]
    rfl
  · intro h
    simp only [pP0, Bool.and_eq_true, beq_iff_eq] at h
    have e := o.2.1 t t2
    rw [t3, t4] at e
    rw [w.2.2.2.2 t s t2 hs t3 (by rw [e, h.2]; rfl)]
/-- a rule that there is not -/
theorem no_rule {A : aR} {a : Nat} (w : wfA A a) (ha : a < 2 ^ 31) {r : Int32} (h : ∀ n, n < a → r ≠ nI n) : nC (pRule A r) 32 = 0 := nC_0.mpr (fun i _ => by
  cases e : pRule A r i with
  | false => rfl
  | true =>
    exfalso
    obtain ⟨h1, h2⟩ := pRule_iff.mp e
    obtain ⟨n, n1, n2⟩ := (w.2.2.2.1 i h1).1
    exact h n n1 (by rw [← h2, n2]))
theorem no_slot {A : aR} {r q : Int32} (h : nC (pRule A r) 32 = 0) : nF (pPart A r q) 0 32 = 32 := by
  have h2 := (nF_le (P := pPart A r q) 32 0).2
  rcases Nat.lt_or_ge (nF (pPart A r q) 0 32) 32 with z | z
  · obtain ⟨h1, h3, -⟩ := pPart_oc z
    have := nC_0.mp h _ z
    rw [pRule_iff.mpr ⟨h1, h3⟩] at this
    cases this
  · omega
theorem wg_addS {x : aSt} {B : Nat} (g : Wg x B) (hB : B < 1000000) (h : aCnt x.1 < 32) {v m kk aa : Nat} (hv : v < 256) (hm : m < 256) (hk : kk < 100) (ha : aa < 10) : Wg (addS x (nI v) (nI m) (nI kk) (nI aa)) (B + 1) ∧ aCnt (addS x (nI v) (nI m) (nI kk) (nI aa)).1 = aCnt x.1 + 1 ∧ nC (pRule (addS x (nI v) (nI m) (nI kk) (nI aa)).1 (x.2 1)) 32 = 1 ∧ q_of (addS x (nI v) (nI m) (nI kk) (nI aa)).1 4 (x.2 1) = nI kk ∧ q_of (addS x (nI v) (nI m) (nI kk) (nI aa)).1 6 (x.2 1) = 0 := by
  obtain ⟨⟨a0, l0, e0, w⟩, o, p, hp, ep⟩ := g
  obtain ⟨a1, l1, e1, w1⟩ := wf_addS ⟨a0, l0, e0, w⟩ hB h hv hm (nI kk) (nI aa)
  have hrn : rowOf (x.2 1) 0 (nI m) (nI v) (nI kk) (nI aa) 0 ≠ -1 := by
    show x.2 1 ≠ -1
    rw [e0]
    exact nI_m1 (by omega)
  have c0 : nC (pRule x.1 (x.2 1)) 32 = 0 := no_rule w (by omega) (fun n hn e => by
    rw [e0] at e
    have := (nI_eq (by omega) (by omega)).mp e
    omega)
  have hno : ∀ s, aoc x.1 s = true → x.1 s 0 ≠ x.2 1 := fun s hs e => by
    have := nC_0.mp c0 s (w.lt hs)
    rw [pRule_iff.mpr ⟨hs, e⟩] at this
    cases this
  obtain ⟨i1, i2, i3, i4, i5⟩ := o.ins w (x.2 0) (nI kk) (row := rowOf (x.2 1) 0 (nI m) (nI v) (nI kk) (nI aa)) h hrn rfl (fun s hs => by
    show x.1 s 0 ≤ x.2 1
    obtain ⟨r, r1, r2⟩ := (w.2.2.2.1 s hs).1
    rw [r2, e0]
    exact (nI_leI (by omega) (by omega)).mpr (by omega)) (fun s hs e => absurd e (hno s hs)) (by
    show (0 : Int32) = nI (nC (pRule x.1 (x.2 1)) 32)
    rw [c0]
    rfl) ⟨kk, hk, rfl⟩ ⟨aa, ha, rfl⟩
  have i2 : nC (pRule (addS x (nI v) (nI m) (nI kk) (nI aa)).1 (x.2 1)) 32 = nC (pRule x.1 (x.2 1)) 32 + 1 := i2
  have i3 : (addS x (nI v) (nI m) (nI kk) (nI aa)).1 (oS x.1 (x.2 0) (nI kk)) = rowOf (x.2 1) 0 (nI m) (nI v) (nI kk) (nI aa) := i3
  refine ⟨⟨⟨a1, l1, e1, w1⟩, i1, p, hp, ?_⟩, aCnt_add _ _ h hrn, by rw [i2, c0], ?_, ?_⟩
  · show upd (upd x.2 1 (x.2 1 + nI 1)) 2 (x.2 2 + nI (oM x.1 (nI kk))) 0 = nI p
    rw [upd_at, if_neg (by decide), upd_at, if_neg (by decide)]
    exact ep
  · rw [q_of_at w1 i4 (by rw [i3]; rfl) (by rw [i3]; rfl), i3]
    rfl
  · rw [q_of_at w1 i4 (by rw [i3]; rfl) (by rw [i3]; rfl), i3]
    rfl
theorem aBlk_ok {P k a : Int32} {a0 h kk aa : Nat} (hh : h < 256) (ha : a0 < 1000000) (hk : k = nI kk) (hkk : kk < 100) (hq : a = nI aa) (haa : aa < 10) : ∀ (d part f : Nat) (x : aR × Int32), part + d ≤ 1000 → f ≤ h + 1 → aCnt x.1 + bCn h f d ≤ 32 → wfA x.1 (a0 + 1) → ordA x.1 → (∀ s, aoc x.1 s = true → x.1 s 0 = nI a0 → x.1 s 4 = k ∧ x.1 s 5 = a) → nC (pRule x.1 (nI a0)) 32 = part → wfA (aBlk P k a (nI a0) h d part f x).1 (a0 + 1) ∧ ordA (aBlk P k a (nI a0) h d part f x).1 ∧ aCnt (aBlk P k a (nI a0) h d part f x).1 = aCnt x.1 + bCn h f d ∧ nC (pRule (aBlk P k a (nI a0) h d part f x).1 (nI a0)) 32 = part + bCn h f d
  | 0, part, f, x, _, _, _, w, o, _, hp => ⟨w, o, rfl, hp⟩
  | d + 1, part, f, x, hd, hf, hc, w, o, hs, hp => by
    simp only [aBlk, bCn] at hc ⊢
    rcases Nat.lt_or_ge h f with q | q
    · rw [if_pos q, if_pos q]
      exact ⟨w, o, rfl, hp⟩
    · rw [if_neg (by omega)] at hc
      rw [if_neg (by omega), if_neg (by omega)]
      have hbl := bS_le f h
      have hfit := bS_fit (f := f) (h := h) (by omega)
      have hlt : aCnt x.1 < 32 := by omega
      have hrn : rowOf (nI a0) (nI part) (nI (256 - bS f h)) (nI f) k a 0 ≠ -1 := nI_m1 (by omega)
      have hcn := aCnt_add P k hlt hrn
      have w2 : wfA (aAdd x.1 P k (rowOf (nI a0) (nI part) (nI (256 - bS f h)) (nI f) k a)) (a0 + 1) := by
        refine w.ins P k hlt (r := a0) (by omega) (by omega) rfl rfl (m := 256 - bS f h) (v := f) (by omega) (by omega) rfl ?_ (bS_and2 (by omega) hh) (fun s hs z => ?_) ?_
        · exact bS_and (by omega) hh
        · have z0 : x.1 s 0 = nI a0 := z.1
          have z1 : x.1 s 1 = nI part := z.2
          have e := o.2.1 s hs
          rw [z0, z1] at e
          have hl := nC_lt (P := pRule x.1 (nI a0)) (w.lt hs) (pRule_iff.mpr ⟨hs, z0⟩)
          have := (nI_eq (by omega) (by omega)).mp e
          omega
        · rcases Nat.eq_zero_or_pos part with z | z
          · subst z
            exact Or.inl rfl
          · obtain ⟨t, t1, t2, t3⟩ := nC_ex (P := pRule x.1 (nI a0)) (n := 32) (p := 0) (by omega)
            obtain ⟨g1, g2⟩ := pRule_iff.mp t2
            have e := o.2.1 t g1
            rw [g2, t3] at e
            exact Or.inr ⟨t, g1, g2, e⟩
      obtain ⟨i1, i2, i3, i4, i5⟩ := o.ins w P k (row := rowOf (nI a0) (nI part) (nI (256 - bS f h)) (nI f) k a) hlt hrn rfl (fun s hs => by
        show x.1 s 0 ≤ nI a0
        obtain ⟨r, r1, r2⟩ := (w.2.2.2.1 s hs).1
        rw [r2]
        exact (nI_leI (by omega) (by omega)).mpr (by omega)) (fun s hs' e => hs s hs' e) (by
        show nI part = nI (nC (pRule x.1 (nI a0)) 32)
        rw [hp]) ⟨kk, hkk, hk⟩ ⟨aa, haa, hq⟩
      have i2 : nC (pRule (aAdd x.1 P k (rowOf (nI a0) (nI part) (nI (256 - bS f h)) (nI f) k a)) (nI a0)) 32 = nC (pRule x.1 (nI a0)) 32 + 1 := i2
      generalize hA2 : aAdd x.1 P k (rowOf (nI a0) (nI part) (nI (256 - bS f h)) (nI f) k a) = A2 at *
      have ih := aBlk_ok (P := P) (k := k) (a := a) hh ha hk hkk hq haa d (part + 1) (f + bS f h) (A2, x.2 + nI (oM x.1 k)) (by omega) (by omega) (by show aCnt A2 + _ ≤ 32; omega) w2 i1 (fun s hs' z => ?_) (by show nC (pRule A2 (nI a0)) 32 = _; omega)
      · obtain ⟨j1, j2, j3, j4⟩ := ih
        refine ⟨j1, j2, ?_, ?_⟩
        · rw [j3]
          show aCnt A2 + _ = _
          omega
        · rw [j4]
          omega
      · have hs' : aoc A2 s = true := hs'
        have z : A2 s 0 = nI a0 := z
        show A2 s 4 = k ∧ A2 s 5 = a
        rcases i5 s hs' with e | ⟨u, u1, u2⟩
        · rw [e, i3]
          exact ⟨rfl, rfl⟩
        · rw [u2] at z ⊢
          exact hs u u1 z
theorem wg_blkS {x : aSt} {B : Nat} (g : Wg x B) (hB : B < 1000000) {f h kk aa : Nat} (hf : f ≤ h) (hh : h < 256) (hc : aCnt x.1 + bCn h f 14 ≤ 32) (hk : kk < 100) (ha : aa < 10) : Wg (blkS x f h (nI kk) (nI aa)) (B + 1) ∧ aCnt (blkS x f h (nI kk) (nI aa)).1 = aCnt x.1 + bCn h f 14 ∧ nC (pRule (blkS x f h (nI kk) (nI aa)).1 (x.2 1)) 32 = bCn h f 14 := by
  obtain ⟨⟨a0, l0, e0, w⟩, o, p, hp, ep⟩ := g
  have c0 : nC (pRule x.1 (nI a0)) 32 = 0 := no_rule w (by omega) (fun n hn e => by
    have := (nI_eq (by omega) (by omega)).mp e
    omega)
  obtain ⟨j1, j2, j3, j4⟩ := aBlk_ok (P := x.2 0) (k := nI kk) (a := nI aa) (a0 := a0) hh (by omega) rfl hk rfl ha 14 0 f (x.1, x.2 2) (by omega) (by omega) hc (w.up (Nat.le_succ a0)) o (fun s hs z => by
    have := nC_0.mp c0 s (w.lt hs)
    rw [pRule_iff.mpr ⟨hs, z⟩] at this
    cases this) c0
  unfold blkS
  rw [e0]
  refine ⟨⟨⟨a0 + 1, by omega, ?_, j1⟩, j2, p, hp, ?_⟩, j3, by rw [j4]; omega⟩
  · dsimp only
    rw [upd_at, if_neg (by decide), upd_at, if_pos rfl, nI_add]
  · dsimp only
    rw [upd_at, if_neg (by decide), upd_at, if_neg (by decide)]
    exact ep
theorem wg_drop {x : aSt} {B : Nat} (g : Wg x B) (r : Int32) : Wg (aDrop x.1 r, x.2) B := by
  obtain ⟨⟨a0, l0, e0, w⟩, o, p⟩ := g
  exact ⟨⟨a0, l0, e0, w.drop r⟩, o.drop r, p⟩
theorem wg_place {x : aSt} {B : Nat} (g : Wg x B) {p : Nat} (hp : p < 3) : Wg (x.1, upd x.2 0 (nI p)) B := by
  obtain ⟨⟨a0, l0, e0, w⟩, o, -⟩ := g
  refine ⟨⟨a0, l0, ?_, w⟩, o, p, hp, ?_⟩
  · dsimp only
    rw [upd_at, if_neg (by decide)]
    exact e0
  · dsimp only
    rw [upd_at, if_pos rfl]
theorem wg_sp {x : aSt} {B n : Nat} (g : Wg x B) (hn : n ≤ 32) (hc : aCnt x.1 ≤ n) (y : Int32) : Wg (aSp x.1 n, upd x.2 2 y) B := by
  obtain ⟨⟨a0, l0, e0, w⟩, o, p, hp, ep⟩ := g
  refine ⟨⟨a0, l0, ?_, w.sp hn hc⟩, o.sp w hn, p, hp, ?_⟩
  · dsimp only
    rw [upd_at, if_neg (by decide)]
    exact e0
  · dsimp only
    rw [upd_at, if_neg (by decide)]
    exact ep
theorem wg_ht {x : aSt} {B : Nat} (g : Wg x B) {r : Int32} (hr : r ≠ -1) (y z : Int32) : Wg (aHt x.1 r, upd (upd x.2 3 y) 4 z) B := by
  obtain ⟨⟨a0, l0, e0, w⟩, o, p, hp, ep⟩ := g
  refine ⟨⟨a0, l0, ?_, w.ht hr⟩, o.ht r, p, hp, ?_⟩
  · dsimp only
    rw [upd_at, if_neg (by decide), upd_at, if_neg (by decide)]
    exact e0
  · dsimp only
    rw [upd_at, if_neg (by decide), upd_at, if_neg (by decide)]
    exact ep
end
section
/-! ===== keys by slots ===== -/
/-- how many of the first n keys find one of the first i slots -/
def sK (A : aR) (n : Nat) : Nat → Nat
  | 0 => 0
  | i + 1 => sK A n i + aKs A (nI i) n
theorem aFd_le (A : aR) (x : Int32) : aFd A x ≤ 32 := by
  have := (nF_le (P := pKey A x) 32 0).2
  unfold aFd
  omega
theorem aN_eq {f i : Nat} (hf : f ≤ 32) (hi : i < 32) : (aN f == nI i) = decide (f = i) := by
  unfold aN
  by_cases h : f < 32
  · rw [if_pos h]
    by_cases e : f = i
    · subst e; simp
    · have : ¬ nI f = nI i := fun z => e ((nI_eq (by omega) (by omega)).mp z)
      simp [e, this]
  · rw [if_neg h]
    have e : ¬ f = i := by omega
    have : ¬ (-1 : Int32) = nI i := fun z => nI_m1 (by omega) z.symm
    simp [e, this]
theorem sK_s (A : aR) (n : Nat) : ∀ i, i ≤ 32 → sK A (n + 1) i = sK A n i + if aFd A (nI n) < i then 1 else 0
  | 0, _ => rfl
  | i + 1, hi => by
    have ih := sK_s A n i (by omega)
    have e : aKs A (nI i) (n + 1) = aKs A (nI i) n + if aFd A (nI n) = i then 1 else 0 := by
      unfold aKs
      simp only [nC]
      congr 1
      have h1 := aN_eq (aFd_le A (nI n)) (show i < 32 by omega)
      by_cases z : aFd A (nI n) = i
      · rw [if_pos z, if_pos (h1.trans (decide_eq_true z))]
      · rw [if_neg z, if_neg (by rw [h1, decide_eq_false z]; decide)]
    simp only [sK]
    rw [ih, e]
    split <;> split <;> split <;> omega
theorem sK_all (A : aR) : ∀ n, sK A n 32 + aKs A (-1) n = n
  | 0 => by
    have : ∀ i, sK A 0 i = 0 := fun i => by
      induction i with
      | zero => rfl
      | succ i ih => simp only [sK, ih]; rfl
    rw [this]
    rfl
  | n + 1 => by
    have ih := sK_all A n
    have e : aKs A (-1) (n + 1) = aKs A (-1) n + if aFd A (nI n) < 32 then 0 else 1 := by
      unfold aKs
      simp only [nC]
      by_cases z : aFd A (nI n) < 32
      · have : ¬ aN (aFd A (nI n)) = -1 := by
          unfold aN
          rw [if_pos z]
          exact nI_m1 (by omega)
        simp [z, this]
      · have : aN (aFd A (nI n)) = -1 := by
          unfold aN
          rw [if_neg z]
        simp [z, this]
    rw [sK_s A n 32 (Nat.le_refl _), e]
    split <;> omega
/-! ===== the power of a search ===== -/
theorem aPw_le (A : aR) (k : Int32) : ∀ b, aPw A k b ≤ nC (aoc A) (b * 8)
  | 0 => Nat.zero_le _
  | b + 1 => by
    have ih := aPw_le A k b
    rw [aCnt_s]
    simp only [aPw]
    split <;> omega
theorem aPw_mono {A : aR} {k : Int32} {b c : Nat} (h : b ≤ c) : aPw A k b ≤ aPw A k c := by
  induction c with
  | zero => obtain rfl : b = 0 := (by omega); exact Nat.le_refl _
  | succ c ih =>
    rcases Nat.lt_or_ge c b with z | z
    · obtain rfl : b = c + 1 := (by omega)
      exact Nat.le_refl _
    · have := ih z
      simp only [aPw]
      split <;> omega
theorem m1_bit {i : Nat} (h : i < 32) : (-1 : Int32).toBitVec.getLsbD i = true := by
  have : (-1 : Int32).toBitVec = BitVec.allOnes 32 := by decide
  rw [this, BitVec.getLsbD_allOnes]
  exact decide_eq_true h
theorem fil_bits (k m M v : Int32) : k &&& (m &&& (M &&& (((k &&& M) ^^^ v) ^^^ (-1)))) = v &&& (m &&& (M &&& (((k &&& M) ^^^ v) ^^^ (-1)))) := by
  apply Int32.toBitVec_inj.mp
  apply BitVec.eq_of_getLsbD_eq
  intro i hi
  simp only [Int32.toBitVec_and, Int32.toBitVec_xor, BitVec.getLsbD_and, BitVec.getLsbD_xor, m1_bit hi]
  cases k.toBitVec.getLsbD i <;> cases m.toBitVec.getLsbD i <;> cases M.toBitVec.getLsbD i <;> cases v.toBitVec.getLsbD i <;> rfl
theorem aCM_in {A : aR} {b f i : Nat} (ho : aoc A (b * 8 + i) = true) : ∀ j, i < j → ∃ m, aCM A b f j = m &&& (A (b * 8 + i) 2 &&& ((A (b * 8 + i) 3 ^^^ A f 3) ^^^ (-1)))
  | 0, h => by omega
  | j + 1, h => by
    rcases Nat.lt_or_ge i j with z | z
    · obtain ⟨m, hm⟩ := aCM_in (f := f) ho j z
      simp only [aCM]
      split
      · rw [hm]
        refine ⟨m &&& (A (b * 8 + j) 2 &&& ((A (b * 8 + j) 3 ^^^ A f 3) ^^^ (-1))), ?_⟩
        have e : ∀ a b c : Int32, (a &&& b) &&& c = (a &&& c) &&& b := fun a b c => by rw [Int32.and_assoc, Int32.and_comm b c, ← Int32.and_assoc]
        exact e _ _ _
      · exact ⟨m, hm⟩
    · obtain rfl : i = j := by omega
      refine ⟨aCM A b f i, ?_⟩
      simp only [aCM]
      rw [if_pos ho]
theorem aFE_in {A : aR} {b i : Nat} (hi : i < 8) (ho : aoc A (b * 8 + i) = true) : aFE A b < 8 := by
  have h2 := (nF_le (P := fun i => aoc A (b * 8 + i)) 8 0).2
  rcases Nat.lt_or_ge (aFE A b) 8 with z | z
  · exact z
  · have := nF_no (P := fun i => aoc A (b * 8 + i)) 8 0 i (Nat.zero_le _) (by unfold aFE at z; omega)
    rw [ho] at this
    cases this
theorem fil_of {A : aR} {b i : Nat} (hi : i < 8) {k : Int32} (ho : aoc A (b * 8 + i) = true) (hk : k &&& A (b * 8 + i) 2 = A (b * 8 + i) 3) : (k &&& aFM A b) = aFV A b := by
  have hf := aFE_in hi ho
  unfold aFV aFM
  rw [if_pos hf, if_pos hf]
  obtain ⟨m, hm⟩ := aCM_in (f := b * 8 + aFE A b) ho 8 hi
  rw [hm, ← hk]
  exact fil_bits _ _ _ _
theorem aPw_pos {A : aR} {k : Int32} (h : aFd A k < 32) : 0 < aPw A k 4 := by
  have h1 := nF_yes (P := pKey A k) 32 0 (by show aFd A k < 0 + 32; omega)
  have h1 : pKey A k (aFd A k) = true := h1
  simp only [pKey, Bool.and_eq_true, beq_iff_eq] at h1
  obtain ⟨b, i, hb, hi, e⟩ : ∃ b i, b < 4 ∧ i < 8 ∧ aFd A k = b * 8 + i := ⟨aFd A k / 8, aFd A k % 8, by omega, by omega, by omega⟩
  rw [e] at h1
  have h2 := fil_of hi h1.1 h1.2
  have h3 : 0 < aBank A b := by
    have := nC_lt (P := fun i => aoc A (b * 8 + i)) hi h1.1
    unfold aBank
    omega
  have h4 := aPw_mono (A := A) (k := k) (b := b + 1) (c := 4) (by omega)
  have h5 : aPw A k (b + 1) = aPw A k b + aBank A b := if_pos h2
  omega
theorem aPw_cnt (A : aR) (k : Int32) : aPw A k 4 ≤ aCnt A := aPw_le A k 4
/-! ===== moves ===== -/
theorem oM_lt {A : aR} {a : Nat} (w : wfA A a) (h : aCnt A < 32) (r : Int32) : oM A r < 32 := by
  unfold oM
  split
  · omega
  · have h1 := aP_le A r
    have h3 := oM_free h h1 (b := aB A r) (by omega)
    have u3 := aMu_33 A (aB A r)
    have d3 := aMd_33 A h1
    by_cases q : aMu A (aB A r) = 33
    · have := (aMd_le (A := A) h1 (fun z => h3 ⟨q, z⟩)).1
      have := Nat.min_le_right (aMu A (aB A r)) (aMd A (aP A r))
      omega
    · have := (aMu_le q).1
      have := Nat.min_le_left (aMu A (aB A r)) (aMd A (aP A r))
      omega
/-! ===== compacting and spreading ===== -/
theorem nC_imp {P Q : Nat → Bool} {n : Nat} (h : ∀ i, i < n → P i = true → Q i = true) : nC P n ≤ nC Q n := nC_rel (R := fun i j => i = j) (fun _ _ _ a b => a.trans b.symm) (fun i hi hp => ⟨i, hi, h i hi hp, rfl⟩)
theorem nC_spo {A : aR} {n : Nat} (hge : ∀ s, 32 ≤ s → aoc A s = false) (hn : n ≤ 32) {p : Nat} (hp : p < aCnt A) : nC (aoc (aSp A n)) (aTg n p) = p := by
  have hlt : ∀ u, aoc A u = true → u < 32 := fun u hu => by
    rcases Nat.lt_or_ge u 32 with z | z
    · exact z
    · rw [hge u z] at hu; cases hu
  obtain ⟨kp, hk⟩ : ∃ kp, kth A p = kp := ⟨_, rfl⟩
  have hkp : nC (aoc A) kp = p := by rw [← hk]; exact (kth_ok hp).2.2
  refine (nC_bij (P := aoc A) (m := kp) (fun u => aTg n (nC (aoc A) u)) (fun u hu hq => ?_) (fun u v hu hv hpu hpv e => ?_) (fun s hs hq => ?_)).symm.trans hkp
  · have hc := kth_nC (hlt u hq) hq
    have lt := nC_lt (P := aoc A) hu hq
    rw [hkp] at lt
    exact ⟨aTg_lt2 hn lt, aSp_oc hn hc⟩
  · have e2 := aTg_inj hn e
    rw [← kth_at (hlt u hpu) hpu, ← kth_at (hlt v hpv) hpv, e2]
  · obtain ⟨c, c1, c2, c3⟩ := aSp_at hn hq
    obtain ⟨k1, k2, k3⟩ := kth_ok c1
    refine ⟨kth A c, ?_, k2, by rw [k3]; exact c2⟩
    rw [← hk]
    rcases Nat.lt_trichotomy c p with z | z | z
    · exact kth_lt hp z
    · subst z; omega
    · have := aTg_lt2 hn z; omega
theorem aSp_out {A : aR} {n : Nat} (hge : ∀ s, 32 ≤ s → aoc A s = false) (hn : n ≤ 32) : nC (pOut (aSp A n) n) 32 = 0 := nC_0.mpr (fun s _ => by
  cases e : pOut (aSp A n) n s with
  | false => rfl
  | true =>
    exfalso
    simp only [pOut, Bool.and_eq_true, Bool.not_eq_true', beq_eq_false_iff_ne] at e
    obtain ⟨p, p1, p2, p3⟩ := aSp_at hn e.1
    refine e.2 ?_
    rw [← p2, nC_spo hge hn p1])
theorem aSp_cnt {A : aR} {n : Nat} (hge : ∀ s, 32 ≤ s → aoc A s = false) (hn : n ≤ 32) (hc : aCnt A ≤ n) : aCnt (aSp A n) = aCnt A := by
  have hlt : ∀ u, aoc A u = true → u < 32 := fun u hu => by
    rcases Nat.lt_or_ge u 32 with z | z
    · exact z
    · rw [hge u z] at hu; cases hu
  refine (nC_bij (P := aoc A) (Q := aoc (aSp A n)) (fun u => aTg n (nC (aoc A) u)) (fun u hu hq => ?_) (fun u v hu hv hpu hpv e => ?_) (fun s hs hq => ?_)).symm
  · have hk := kth_nC hu hq
    exact ⟨aTg_lt (Or.inl (by omega)), aSp_oc hn hk⟩
  · have e2 := aTg_inj hn e
    rw [← kth_at hu hpu, ← kth_at hv hpv, e2]
  · obtain ⟨c, c1, c2, c3⟩ := aSp_at hn hq
    obtain ⟨k1, k2, k3⟩ := kth_ok c1
    exact ⟨kth A c, k1, k2, by rw [k3]; exact c2⟩
/-- where none is out of its place -/
theorem out_none {A : aR} {n : Nat} (h : nC (pOut A n) 32 = 0) {p : Nat} (hp : p < aCnt A) : aoc A (aTg n p) = true := by
  obtain ⟨k1, k2, k3⟩ := kth_ok hp
  have e := nC_0.mp h _ k1
  unfold pOut at e
  rw [k2, k3] at e
  simp at e
  rw [← e]
  exact k2
theorem out_le (A : aR) (n : Nat) : nC (pOut A n) 32 ≤ aCnt A := nC_imp (fun i _ h => by
  simp only [pOut, Bool.and_eq_true] at h
  exact h.1)
/-! ===== what is seen of a state, as one number ===== -/
def sD (x : aSt) : aO := (x, none, [], (0, fun _ => -1))
def sv1 (x : aSt) : Nat → Int64
  | 0 => 97
  | w + 1 => 31 * sv1 x w + (q_total (sD x) (nI w)).toInt64
def svR (A : aR) (i : Nat) : Int32 := if q_in A 0 (nI i) < 0 then nI 0 else 100000 * q_of A 5 (q_in A 0 (nI i)) + nI 1000 * q_of A 4 (q_in A 0 (nI i)) + q_of A 6 (q_in A 0 (nI i))
def sv2 (x : aSt) : Nat → Int64
  | 0 => sv1 x 9
  | i + 1 => 31 * (31 * (31 * (31 * sv2 x i + (q_in x.1 0 (nI i)).toInt64) + (q_in x.1 2 (nI i)).toInt64) + (q_in x.1 3 (nI i)).toInt64) + (svR x.1 i).toInt64
def sv (x : aSt) : Int64 := sv2 x 32
theorem q_total_D (s : aO) : ∀ w, w < 9 → q_total s (nI w) = q_total (sD s.1) (nI w) := by
  intro w hw
  obtain rfl | rfl | rfl | rfl | rfl | rfl | rfl | rfl | rfl : w = 0 ∨ w = 1 ∨ w = 2 ∨ w = 3 ∨ w = 4 ∨ w = 5 ∨ w = 6 ∨ w = 7 ∨ w = 8 := by omega
  all_goals rfl
end
