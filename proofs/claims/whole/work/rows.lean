section
-- ===== PART A: goes FIRST, ahead of the names: the tables' words, and 'selects' of the private methods out of them =====
/-- a private method of a class that the tables say can be made, by its rows of tables_1 -/
def lw_okq (q : MethodName × Nat) : Prop := (q.1.cls ≠ "java/lang/invoke/MethodHandle" ∧ q.1.cls ≠ "java/lang/invoke/VarHandle") ∧ Cond.instantiable q.1.cls q.2 ∈ tables_1 ∧ Cond.privateMethod q.1 ∈ tables_1 ∧ Cond.instanceMethod q.1 ∈ tables_1
theorem lw_p0 : lw_okq (⟨"TernaryMatcher$Memory", "openSlot", "(I)I"⟩, 12) := ⟨⟨by decide +kernel, by decide +kernel⟩, List.mem_of_getElem? (i := 17) (by decide +kernel), List.mem_of_getElem? (i := 192) (by decide +kernel), List.mem_of_getElem? (i := 193) (by decide +kernel)⟩
theorem lw_p1 : lw_okq (⟨"TernaryMatcher$Memory", "lastSlotUpTo", "(I)I"⟩, 12) := ⟨⟨by decide +kernel, by decide +kernel⟩, List.mem_of_getElem? (i := 17) (by decide +kernel), List.mem_of_getElem? (i := 196) (by decide +kernel), List.mem_of_getElem? (i := 197) (by decide +kernel)⟩
theorem lw_p2 : lw_okq (⟨"TernaryMatcher$Memory", "firstSlotBeyond", "(I)I"⟩, 12) := ⟨⟨by decide +kernel, by decide +kernel⟩, List.mem_of_getElem? (i := 17) (by decide +kernel), List.mem_of_getElem? (i := 200) (by decide +kernel), List.mem_of_getElem? (i := 201) (by decide +kernel)⟩
theorem lw_p3 : lw_okq (⟨"TernaryMatcher$Memory", "placeBetween", "(II)I"⟩, 12) := ⟨⟨by decide +kernel, by decide +kernel⟩, List.mem_of_getElem? (i := 17) (by decide +kernel), List.mem_of_getElem? (i := 204) (by decide +kernel), List.mem_of_getElem? (i := 205) (by decide +kernel)⟩
theorem lw_p4 : lw_okq (⟨"TernaryMatcher$Memory", "movesUpFrom", "(I)I"⟩, 12) := ⟨⟨by decide +kernel, by decide +kernel⟩, List.mem_of_getElem? (i := 17) (by decide +kernel), List.mem_of_getElem? (i := 208) (by decide +kernel), List.mem_of_getElem? (i := 209) (by decide +kernel)⟩
theorem lw_p5 : lw_okq (⟨"TernaryMatcher$Memory", "movesDownFrom", "(I)I"⟩, 12) := ⟨⟨by decide +kernel, by decide +kernel⟩, List.mem_of_getElem? (i := 17) (by decide +kernel), List.mem_of_getElem? (i := 212) (by decide +kernel), List.mem_of_getElem? (i := 213) (by decide +kernel)⟩
theorem lw_p6 : lw_okq (⟨"TernaryMatcher$Memory", "moveUp", "(II)V"⟩, 12) := ⟨⟨by decide +kernel, by decide +kernel⟩, List.mem_of_getElem? (i := 17) (by decide +kernel), List.mem_of_getElem? (i := 216) (by decide +kernel), List.mem_of_getElem? (i := 217) (by decide +kernel)⟩
theorem lw_p7 : lw_okq (⟨"TernaryMatcher$Memory", "moveEntry", "(II)V"⟩, 12) := ⟨⟨by decide +kernel, by decide +kernel⟩, List.mem_of_getElem? (i := 17) (by decide +kernel), List.mem_of_getElem? (i := 220) (by decide +kernel), List.mem_of_getElem? (i := 221) (by decide +kernel)⟩
theorem lw_p8 : lw_okq (⟨"TernaryMatcher$Memory", "moveDown", "(II)V"⟩, 12) := ⟨⟨by decide +kernel, by decide +kernel⟩, List.mem_of_getElem? (i := 17) (by decide +kernel), List.mem_of_getElem? (i := 227) (by decide +kernel), List.mem_of_getElem? (i := 228) (by decide +kernel)⟩
theorem lw_p9 : lw_okq (⟨"TernaryMatcher$Memory", "fill", "(IIIIIII)V"⟩, 12) := ⟨⟨by decide +kernel, by decide +kernel⟩, List.mem_of_getElem? (i := 17) (by decide +kernel), List.mem_of_getElem? (i := 231) (by decide +kernel), List.mem_of_getElem? (i := 232) (by decide +kernel)⟩
theorem lw_p10 : lw_okq (⟨"TernaryMatcher", "rearrange", "(I)I"⟩, 5) := ⟨⟨by decide +kernel, by decide +kernel⟩, List.mem_of_getElem? (i := 9) (by decide +kernel), List.mem_of_getElem? (i := 273) (by decide +kernel), List.mem_of_getElem? (i := 274) (by decide +kernel)⟩
theorem lw_p11 : lw_okq (⟨"TernaryMatcher$Memory", "moveToFront", "()I"⟩, 12) := ⟨⟨by decide +kernel, by decide +kernel⟩, List.mem_of_getElem? (i := 17) (by decide +kernel), List.mem_of_getElem? (i := 288) (by decide +kernel), List.mem_of_getElem? (i := 289) (by decide +kernel)⟩
theorem lw_p12 : lw_okq (⟨"TernaryMatcher$Memory", "firstEntryOfBank", "(I)I"⟩, 12) := ⟨⟨by decide +kernel, by decide +kernel⟩, List.mem_of_getElem? (i := 17) (by decide +kernel), List.mem_of_getElem? (i := 317) (by decide +kernel), List.mem_of_getElem? (i := 318) (by decide +kernel)⟩
theorem lw_p13 : lw_okq (⟨"TernaryMatcher$RuleText", "readEntry", "(I)Z"⟩, 8) := ⟨⟨by decide +kernel, by decide +kernel⟩, List.mem_of_getElem? (i := 92) (by decide +kernel), List.mem_of_getElem? (i := 349) (by decide +kernel), List.mem_of_getElem? (i := 350) (by decide +kernel)⟩
theorem lw_p14 : lw_okq (⟨"TernaryMatcher$RuleText", "sign", "()I"⟩, 8) := ⟨⟨by decide +kernel, by decide +kernel⟩, List.mem_of_getElem? (i := 92) (by decide +kernel), List.mem_of_getElem? (i := 353) (by decide +kernel), List.mem_of_getElem? (i := 354) (by decide +kernel)⟩
theorem lw_p15 : lw_okq (⟨"TernaryMatcher$RuleText", "skip", "(C)Z"⟩, 8) := ⟨⟨by decide +kernel, by decide +kernel⟩, List.mem_of_getElem? (i := 92) (by decide +kernel), List.mem_of_getElem? (i := 357) (by decide +kernel), List.mem_of_getElem? (i := 358) (by decide +kernel)⟩
def lw_privs_1 : List (MethodName × Nat) := [(⟨"TernaryMatcher$Memory", "openSlot", "(I)I"⟩, 12), (⟨"TernaryMatcher$Memory", "lastSlotUpTo", "(I)I"⟩, 12), (⟨"TernaryMatcher$Memory", "firstSlotBeyond", "(I)I"⟩, 12), (⟨"TernaryMatcher$Memory", "placeBetween", "(II)I"⟩, 12), (⟨"TernaryMatcher$Memory", "movesUpFrom", "(I)I"⟩, 12), (⟨"TernaryMatcher$Memory", "movesDownFrom", "(I)I"⟩, 12), (⟨"TernaryMatcher$Memory", "moveUp", "(II)V"⟩, 12), (⟨"TernaryMatcher$Memory", "moveEntry", "(II)V"⟩, 12), (⟨"TernaryMatcher$Memory", "moveDown", "(II)V"⟩, 12), (⟨"TernaryMatcher$Memory", "fill", "(IIIIIII)V"⟩, 12), (⟨"TernaryMatcher", "rearrange", "(I)I"⟩, 5), (⟨"TernaryMatcher$Memory", "moveToFront", "()I"⟩, 12), (⟨"TernaryMatcher$Memory", "firstEntryOfBank", "(I)I"⟩, 12), (⟨"TernaryMatcher$RuleText", "readEntry", "(I)Z"⟩, 8), (⟨"TernaryMatcher$RuleText", "sign", "()I"⟩, 8), (⟨"TernaryMatcher$RuleText", "skip", "(C)Z"⟩, 8)]
theorem lw_r1 : ∀ q ∈ lw_privs_1, lw_okq q := List.forall_mem_cons.mpr ⟨lw_p0, List.forall_mem_cons.mpr ⟨lw_p1, List.forall_mem_cons.mpr ⟨lw_p2, List.forall_mem_cons.mpr ⟨lw_p3, List.forall_mem_cons.mpr ⟨lw_p4, List.forall_mem_cons.mpr ⟨lw_p5, List.forall_mem_cons.mpr ⟨lw_p6, List.forall_mem_cons.mpr ⟨lw_p7, List.forall_mem_cons.mpr ⟨lw_p8, List.forall_mem_cons.mpr ⟨lw_p9, List.forall_mem_cons.mpr ⟨lw_p10, List.forall_mem_cons.mpr ⟨lw_p11, List.forall_mem_cons.mpr ⟨lw_p12, List.forall_mem_cons.mpr ⟨lw_p13, List.forall_mem_cons.mpr ⟨lw_p14, List.forall_mem_cons.mpr ⟨lw_p15, fun _ h => absurd h List.not_mem_nil⟩⟩⟩⟩⟩⟩⟩⟩⟩⟩⟩⟩⟩⟩⟩⟩
theorem lw_p16 : lw_okq (⟨"TernaryMatcher$RuleText", "readRank", "(I)Z"⟩, 8) := ⟨⟨by decide +kernel, by decide +kernel⟩, List.mem_of_getElem? (i := 92) (by decide +kernel), List.mem_of_getElem? (i := 361) (by decide +kernel), List.mem_of_getElem? (i := 362) (by decide +kernel)⟩
theorem lw_p17 : lw_okq (⟨"TernaryMatcher$RuleText", "digit", "()I"⟩, 8) := ⟨⟨by decide +kernel, by decide +kernel⟩, List.mem_of_getElem? (i := 92) (by decide +kernel), List.mem_of_getElem? (i := 365) (by decide +kernel), List.mem_of_getElem? (i := 366) (by decide +kernel)⟩
theorem lw_p18 : lw_okq (⟨"TernaryMatcher$RuleText", "readAction", "(I)Z"⟩, 8) := ⟨⟨by decide +kernel, by decide +kernel⟩, List.mem_of_getElem? (i := 92) (by decide +kernel), List.mem_of_getElem? (i := 369) (by decide +kernel), List.mem_of_getElem? (i := 370) (by decide +kernel)⟩
theorem lw_p19 : lw_okq (⟨"TernaryMatcherModel", "entries", "()I"⟩, 11) := ⟨⟨by decide +kernel, by decide +kernel⟩, List.mem_of_getElem? (i := 506) (by decide +kernel), List.mem_of_getElem? (i := 557) (by decide +kernel), List.mem_of_getElem? (i := 558) (by decide +kernel)⟩
theorem lw_p20 : lw_okq (⟨"TernaryMatcherModel", "isFree", "(I)Z"⟩, 11) := ⟨⟨by decide +kernel, by decide +kernel⟩, List.mem_of_getElem? (i := 506) (by decide +kernel), List.mem_of_getElem? (i := 561) (by decide +kernel), List.mem_of_getElem? (i := 562) (by decide +kernel)⟩
theorem lw_p21 : lw_okq (⟨"TernaryMatcherModel", "record", "()V"⟩, 11) := ⟨⟨by decide +kernel, by decide +kernel⟩, List.mem_of_getElem? (i := 506) (by decide +kernel), List.mem_of_getElem? (i := 569) (by decide +kernel), List.mem_of_getElem? (i := 570) (by decide +kernel)⟩
theorem lw_p22 : lw_okq (⟨"TernaryMatcherModel", "freeSlots", "()I"⟩, 11) := ⟨⟨by decide +kernel, by decide +kernel⟩, List.mem_of_getElem? (i := 506) (by decide +kernel), List.mem_of_getElem? (i := 586) (by decide +kernel), List.mem_of_getElem? (i := 587) (by decide +kernel)⟩
theorem lw_p23 : lw_okq (⟨"TernaryMatcherModel", "add", "(IIII)I"⟩, 11) := ⟨⟨by decide +kernel, by decide +kernel⟩, List.mem_of_getElem? (i := 506) (by decide +kernel), List.mem_of_getElem? (i := 590) (by decide +kernel), List.mem_of_getElem? (i := 591) (by decide +kernel)⟩
theorem lw_p24 : lw_okq (⟨"TernaryMatcherModel", "makeRoom", "(I)I"⟩, 11) := ⟨⟨by decide +kernel, by decide +kernel⟩, List.mem_of_getElem? (i := 506) (by decide +kernel), List.mem_of_getElem? (i := 594) (by decide +kernel), List.mem_of_getElem? (i := 595) (by decide +kernel)⟩
theorem lw_p25 : lw_okq (⟨"TernaryMatcherModel", "lastUpTo", "(I)I"⟩, 11) := ⟨⟨by decide +kernel, by decide +kernel⟩, List.mem_of_getElem? (i := 506) (by decide +kernel), List.mem_of_getElem? (i := 598) (by decide +kernel), List.mem_of_getElem? (i := 599) (by decide +kernel)⟩
theorem lw_p26 : lw_okq (⟨"TernaryMatcherModel", "at", "(II)I"⟩, 11) := ⟨⟨by decide +kernel, by decide +kernel⟩, List.mem_of_getElem? (i := 506) (by decide +kernel), List.mem_of_getElem? (i := 602) (by decide +kernel), List.mem_of_getElem? (i := 603) (by decide +kernel)⟩
theorem lw_p27 : lw_okq (⟨"TernaryMatcherModel", "firstAbove", "(I)I"⟩, 11) := ⟨⟨by decide +kernel, by decide +kernel⟩, List.mem_of_getElem? (i := 506) (by decide +kernel), List.mem_of_getElem? (i := 606) (by decide +kernel), List.mem_of_getElem? (i := 607) (by decide +kernel)⟩
theorem lw_p28 : lw_okq (⟨"TernaryMatcherModel", "moves", "(I)I"⟩, 11) := ⟨⟨by decide +kernel, by decide +kernel⟩, List.mem_of_getElem? (i := 506) (by decide +kernel), List.mem_of_getElem? (i := 610) (by decide +kernel), List.mem_of_getElem? (i := 611) (by decide +kernel)⟩
theorem lw_p29 : lw_okq (⟨"TernaryMatcherModel", "freeBehind", "(I)I"⟩, 11) := ⟨⟨by decide +kernel, by decide +kernel⟩, List.mem_of_getElem? (i := 506) (by decide +kernel), List.mem_of_getElem? (i := 614) (by decide +kernel), List.mem_of_getElem? (i := 615) (by decide +kernel)⟩
theorem lw_p30 : lw_okq (⟨"TernaryMatcherModel", "freeAhead", "(I)I"⟩, 11) := ⟨⟨by decide +kernel, by decide +kernel⟩, List.mem_of_getElem? (i := 506) (by decide +kernel), List.mem_of_getElem? (i := 618) (by decide +kernel), List.mem_of_getElem? (i := 619) (by decide +kernel)⟩
theorem lw_p31 : lw_okq (⟨"TernaryMatcherModel", "copyEntry", "(II)V"⟩, 11) := ⟨⟨by decide +kernel, by decide +kernel⟩, List.mem_of_getElem? (i := 506) (by decide +kernel), List.mem_of_getElem? (i := 622) (by decide +kernel), List.mem_of_getElem? (i := 623) (by decide +kernel)⟩
def lw_privs_2 : List (MethodName × Nat) := [(⟨"TernaryMatcher$RuleText", "readRank", "(I)Z"⟩, 8), (⟨"TernaryMatcher$RuleText", "digit", "()I"⟩, 8), (⟨"TernaryMatcher$RuleText", "readAction", "(I)Z"⟩, 8), (⟨"TernaryMatcherModel", "entries", "()I"⟩, 11), (⟨"TernaryMatcherModel", "isFree", "(I)Z"⟩, 11), (⟨"TernaryMatcherModel", "record", "()V"⟩, 11), (⟨"TernaryMatcherModel", "freeSlots", "()I"⟩, 11), (⟨"TernaryMatcherModel", "add", "(IIII)I"⟩, 11), (⟨"TernaryMatcherModel", "makeRoom", "(I)I"⟩, 11), (⟨"TernaryMatcherModel", "lastUpTo", "(I)I"⟩, 11), (⟨"TernaryMatcherModel", "at", "(II)I"⟩, 11), (⟨"TernaryMatcherModel", "firstAbove", "(I)I"⟩, 11), (⟨"TernaryMatcherModel", "moves", "(I)I"⟩, 11), (⟨"TernaryMatcherModel", "freeBehind", "(I)I"⟩, 11), (⟨"TernaryMatcherModel", "freeAhead", "(I)I"⟩, 11), (⟨"TernaryMatcherModel", "copyEntry", "(II)V"⟩, 11)]
theorem lw_r2 : ∀ q ∈ lw_privs_2, lw_okq q := List.forall_mem_cons.mpr ⟨lw_p16, List.forall_mem_cons.mpr ⟨lw_p17, List.forall_mem_cons.mpr ⟨lw_p18, List.forall_mem_cons.mpr ⟨lw_p19, List.forall_mem_cons.mpr ⟨lw_p20, List.forall_mem_cons.mpr ⟨lw_p21, List.forall_mem_cons.mpr ⟨lw_p22, List.forall_mem_cons.mpr ⟨lw_p23, List.forall_mem_cons.mpr ⟨lw_p24, List.forall_mem_cons.mpr ⟨lw_p25, List.forall_mem_cons.mpr ⟨lw_p26, List.forall_mem_cons.mpr ⟨lw_p27, List.forall_mem_cons.mpr ⟨lw_p28, List.forall_mem_cons.mpr ⟨lw_p29, List.forall_mem_cons.mpr ⟨lw_p30, List.forall_mem_cons.mpr ⟨lw_p31, fun _ h => absurd h List.not_mem_nil⟩⟩⟩⟩⟩⟩⟩⟩⟩⟩⟩⟩⟩⟩⟩⟩
theorem lw_p32 : lw_okq (⟨"TernaryMatcherModel", "put", "(IIIIIII)V"⟩, 11) := ⟨⟨by decide +kernel, by decide +kernel⟩, List.mem_of_getElem? (i := 506) (by decide +kernel), List.mem_of_getElem? (i := 626) (by decide +kernel), List.mem_of_getElem? (i := 627) (by decide +kernel)⟩
theorem lw_p33 : lw_okq (⟨"TernaryMatcherModel", "isRule", "(I)Z"⟩, 11) := ⟨⟨by decide +kernel, by decide +kernel⟩, List.mem_of_getElem? (i := 506) (by decide +kernel), List.mem_of_getElem? (i := 647) (by decide +kernel), List.mem_of_getElem? (i := 648) (by decide +kernel)⟩
theorem lw_p34 : lw_okq (⟨"TernaryMatcherModel", "slotWith", "(II)I"⟩, 11) := ⟨⟨by decide +kernel, by decide +kernel⟩, List.mem_of_getElem? (i := 506) (by decide +kernel), List.mem_of_getElem? (i := 651) (by decide +kernel), List.mem_of_getElem? (i := 652) (by decide +kernel)⟩
theorem lw_p35 : lw_okq (⟨"TernaryMatcherModel", "clearSlot", "(I)V"⟩, 11) := ⟨⟨by decide +kernel, by decide +kernel⟩, List.mem_of_getElem? (i := 506) (by decide +kernel), List.mem_of_getElem? (i := 655) (by decide +kernel), List.mem_of_getElem? (i := 656) (by decide +kernel)⟩
theorem lw_p36 : lw_okq (⟨"TernaryMatcherModel", "rearrange", "(Z)I"⟩, 11) := ⟨⟨by decide +kernel, by decide +kernel⟩, List.mem_of_getElem? (i := 506) (by decide +kernel), List.mem_of_getElem? (i := 667) (by decide +kernel), List.mem_of_getElem? (i := 668) (by decide +kernel)⟩
theorem lw_p37 : lw_okq (⟨"TernaryMatcherModel", "slotFor", "(I)I"⟩, 11) := ⟨⟨by decide +kernel, by decide +kernel⟩, List.mem_of_getElem? (i := 506) (by decide +kernel), List.mem_of_getElem? (i := 682) (by decide +kernel), List.mem_of_getElem? (i := 683) (by decide +kernel)⟩
theorem lw_p38 : lw_okq (⟨"TernaryMatcherModel", "matches", "(II)Z"⟩, 11) := ⟨⟨by decide +kernel, by decide +kernel⟩, List.mem_of_getElem? (i := 506) (by decide +kernel), List.mem_of_getElem? (i := 686) (by decide +kernel), List.mem_of_getElem? (i := 687) (by decide +kernel)⟩
theorem lw_p39 : lw_okq (⟨"TernaryMatcherModel", "powerOf", "(I)I"⟩, 11) := ⟨⟨by decide +kernel, by decide +kernel⟩, List.mem_of_getElem? (i := 506) (by decide +kernel), List.mem_of_getElem? (i := 690) (by decide +kernel), List.mem_of_getElem? (i := 691) (by decide +kernel)⟩
theorem lw_p40 : lw_okq (⟨"TernaryMatcherModel", "filter", "(IZ)I"⟩, 11) := ⟨⟨by decide +kernel, by decide +kernel⟩, List.mem_of_getElem? (i := 506) (by decide +kernel), List.mem_of_getElem? (i := 694) (by decide +kernel), List.mem_of_getElem? (i := 695) (by decide +kernel)⟩
theorem lw_p41 : lw_okq (⟨"TernaryMatcherModel", "entriesIn", "(I)I"⟩, 11) := ⟨⟨by decide +kernel, by decide +kernel⟩, List.mem_of_getElem? (i := 506) (by decide +kernel), List.mem_of_getElem? (i := 698) (by decide +kernel), List.mem_of_getElem? (i := 699) (by decide +kernel)⟩
theorem lw_p42 : lw_okq (⟨"TernaryMatcherModel", "readText", "()Z"⟩, 11) := ⟨⟨by decide +kernel, by decide +kernel⟩, List.mem_of_getElem? (i := 506) (by decide +kernel), List.mem_of_getElem? (i := 730) (by decide +kernel), List.mem_of_getElem? (i := 731) (by decide +kernel)⟩
theorem lw_p43 : lw_okq (⟨"TernaryMatcherModel", "readRule", "()Z"⟩, 11) := ⟨⟨by decide +kernel, by decide +kernel⟩, List.mem_of_getElem? (i := 506) (by decide +kernel), List.mem_of_getElem? (i := 734) (by decide +kernel), List.mem_of_getElem? (i := 735) (by decide +kernel)⟩
theorem lw_p44 : lw_okq (⟨"TernaryMatcherModel", "takes", "(I)Z"⟩, 11) := ⟨⟨by decide +kernel, by decide +kernel⟩, List.mem_of_getElem? (i := 506) (by decide +kernel), List.mem_of_getElem? (i := 738) (by decide +kernel), List.mem_of_getElem? (i := 739) (by decide +kernel)⟩
theorem lw_p45 : lw_okq (⟨"TernaryMatcherModel", "sees", "(II)Z"⟩, 11) := ⟨⟨by decide +kernel, by decide +kernel⟩, List.mem_of_getElem? (i := 506) (by decide +kernel), List.mem_of_getElem? (i := 742) (by decide +kernel), List.mem_of_getElem? (i := 743) (by decide +kernel)⟩
theorem lw_p46 : lw_okq (⟨"TernaryMatcherModel", "number", "(I)I"⟩, 11) := ⟨⟨by decide +kernel, by decide +kernel⟩, List.mem_of_getElem? (i := 506) (by decide +kernel), List.mem_of_getElem? (i := 746) (by decide +kernel), List.mem_of_getElem? (i := 747) (by decide +kernel)⟩
theorem lw_p47 : lw_okq (⟨"TernaryMatcherModel", "inSlot", "(II)I"⟩, 11) := ⟨⟨by decide +kernel, by decide +kernel⟩, List.mem_of_getElem? (i := 506) (by decide +kernel), List.mem_of_getElem? (i := 754) (by decide +kernel), List.mem_of_getElem? (i := 755) (by decide +kernel)⟩
def lw_privs_3 : List (MethodName × Nat) := [(⟨"TernaryMatcherModel", "put", "(IIIIIII)V"⟩, 11), (⟨"TernaryMatcherModel", "isRule", "(I)Z"⟩, 11), (⟨"TernaryMatcherModel", "slotWith", "(II)I"⟩, 11), (⟨"TernaryMatcherModel", "clearSlot", "(I)V"⟩, 11), (⟨"TernaryMatcherModel", "rearrange", "(Z)I"⟩, 11), (⟨"TernaryMatcherModel", "slotFor", "(I)I"⟩, 11), (⟨"TernaryMatcherModel", "matches", "(II)Z"⟩, 11), (⟨"TernaryMatcherModel", "powerOf", "(I)I"⟩, 11), (⟨"TernaryMatcherModel", "filter", "(IZ)I"⟩, 11), (⟨"TernaryMatcherModel", "entriesIn", "(I)I"⟩, 11), (⟨"TernaryMatcherModel", "readText", "()Z"⟩, 11), (⟨"TernaryMatcherModel", "readRule", "()Z"⟩, 11), (⟨"TernaryMatcherModel", "takes", "(I)Z"⟩, 11), (⟨"TernaryMatcherModel", "sees", "(II)Z"⟩, 11), (⟨"TernaryMatcherModel", "number", "(I)I"⟩, 11), (⟨"TernaryMatcherModel", "inSlot", "(II)I"⟩, 11)]
theorem lw_r3 : ∀ q ∈ lw_privs_3, lw_okq q := List.forall_mem_cons.mpr ⟨lw_p32, List.forall_mem_cons.mpr ⟨lw_p33, List.forall_mem_cons.mpr ⟨lw_p34, List.forall_mem_cons.mpr ⟨lw_p35, List.forall_mem_cons.mpr ⟨lw_p36, List.forall_mem_cons.mpr ⟨lw_p37, List.forall_mem_cons.mpr ⟨lw_p38, List.forall_mem_cons.mpr ⟨lw_p39, List.forall_mem_cons.mpr ⟨lw_p40, List.forall_mem_cons.mpr ⟨lw_p41, List.forall_mem_cons.mpr ⟨lw_p42, List.forall_mem_cons.mpr ⟨lw_p43, List.forall_mem_cons.mpr ⟨lw_p44, List.forall_mem_cons.mpr ⟨lw_p45, List.forall_mem_cons.mpr ⟨lw_p46, List.forall_mem_cons.mpr ⟨lw_p47, fun _ h => absurd h List.not_mem_nil⟩⟩⟩⟩⟩⟩⟩⟩⟩⟩⟩⟩⟩⟩⟩⟩
theorem lw_p48 : lw_okq (⟨"TernaryMatcherModel", "partsOf", "(I)I"⟩, 11) := ⟨⟨by decide +kernel, by decide +kernel⟩, List.mem_of_getElem? (i := 506) (by decide +kernel), List.mem_of_getElem? (i := 781) (by decide +kernel), List.mem_of_getElem? (i := 782) (by decide +kernel)⟩
theorem lw_p49 : lw_okq (⟨"TernaryMatcherModel", "ofRule", "(II)I"⟩, 11) := ⟨⟨by decide +kernel, by decide +kernel⟩, List.mem_of_getElem? (i := 506) (by decide +kernel), List.mem_of_getElem? (i := 789) (by decide +kernel), List.mem_of_getElem? (i := 790) (by decide +kernel)⟩
theorem lw_p50 : lw_okq (⟨"TernaryMatcherModel", "hides", "(II)Z"⟩, 11) := ⟨⟨by decide +kernel, by decide +kernel⟩, List.mem_of_getElem? (i := 506) (by decide +kernel), List.mem_of_getElem? (i := 805) (by decide +kernel), List.mem_of_getElem? (i := 806) (by decide +kernel)⟩
theorem lw_p51 : lw_okq (⟨"TernaryMatcherModel", "keysWith", "(I)I"⟩, 11) := ⟨⟨by decide +kernel, by decide +kernel⟩, List.mem_of_getElem? (i := 506) (by decide +kernel), List.mem_of_getElem? (i := 813) (by decide +kernel), List.mem_of_getElem? (i := 814) (by decide +kernel)⟩
theorem lw_p52 : lw_okq (⟨"TernaryMatcherModel", "rules", "()I"⟩, 11) := ⟨⟨by decide +kernel, by decide +kernel⟩, List.mem_of_getElem? (i := 506) (by decide +kernel), List.mem_of_getElem? (i := 829) (by decide +kernel), List.mem_of_getElem? (i := 830) (by decide +kernel)⟩
theorem lw_p53 : lw_okq (⟨"TernaryMatcherModel", "entriesWithoutKeys", "()I"⟩, 11) := ⟨⟨by decide +kernel, by decide +kernel⟩, List.mem_of_getElem? (i := 506) (by decide +kernel), List.mem_of_getElem? (i := 833) (by decide +kernel), List.mem_of_getElem? (i := 834) (by decide +kernel)⟩
def lw_privs_4 : List (MethodName × Nat) := [(⟨"TernaryMatcherModel", "partsOf", "(I)I"⟩, 11), (⟨"TernaryMatcherModel", "ofRule", "(II)I"⟩, 11), (⟨"TernaryMatcherModel", "hides", "(II)Z"⟩, 11), (⟨"TernaryMatcherModel", "keysWith", "(I)I"⟩, 11), (⟨"TernaryMatcherModel", "rules", "()I"⟩, 11), (⟨"TernaryMatcherModel", "entriesWithoutKeys", "()I"⟩, 11)]
theorem lw_r4 : ∀ q ∈ lw_privs_4, lw_okq q := List.forall_mem_cons.mpr ⟨lw_p48, List.forall_mem_cons.mpr ⟨lw_p49, List.forall_mem_cons.mpr ⟨lw_p50, List.forall_mem_cons.mpr ⟨lw_p51, List.forall_mem_cons.mpr ⟨lw_p52, List.forall_mem_cons.mpr ⟨lw_p53, fun _ h => absurd h List.not_mem_nil⟩⟩⟩⟩⟩⟩
def lw_privs : List (MethodName × Nat) := lw_privs_1 ++ (lw_privs_2 ++ (lw_privs_3 ++ (lw_privs_4)))
def lw_tbl : List Cond := k2_sels lw_privs ++ tables_1
theorem lw_privs_ok : ∀ q ∈ lw_privs, lw_okq q := by
  show ∀ q ∈ lw_privs_1 ++ (lw_privs_2 ++ (lw_privs_3 ++ (lw_privs_4))), lw_okq q
  exact List.forall_mem_append.mpr ⟨lw_r1, List.forall_mem_append.mpr ⟨lw_r2, List.forall_mem_append.mpr ⟨lw_r3, lw_r4⟩⟩⟩
-- ===== end of PART A; then your names; then what follows =====
end
section
def RX0 : String := "TernaryMatcher$History"
def TX0 : u_T := fun k => match k with
  | 0 => ("TernaryMatcher$History", "states", "[LTernaryMatcher$Memory;", true)
  | 1 => ("TernaryMatcher$History", "oldest", "I", false)
  | _ => ("TernaryMatcher$History", "count", "I", false)
def tyX0 : Nat → FieldType := fun k => match k with
  | 0 => .array (.object "TernaryMatcher$Memory")
  | 1 => .int
  | _ => .int
abbrev wsX00 : List Cond := u_ws RX0 TX0 3
theorem nmX0 : ∀ a, a < 3 → ∀ b, b < 3 → a ≠ b → (TX0 a).2.1 ≠ (TX0 b).2.1 := by decide +kernel
theorem tyX0_ok : ∀ k, k < 3 → parseFieldDescriptor (TX0 k).2.2.1 = some (tyX0 k) := by decide +kernel
abbrev cX0_init : ByteArray := prog_2_method_1_code
def yX0_init : MethodName := ⟨RX0, "<init>", "()V"⟩
abbrev cX0_record : ByteArray := prog_2_method_2_code
def yX0_record : MethodName := ⟨RX0, "record", "(LTernaryMatcher$Memory;)V"⟩
abbrev cX0_takeLatestInto : ByteArray := prog_2_method_3_code
def yX0_takeLatestInto : MethodName := ⟨RX0, "takeLatestInto", "(LTernaryMatcher$Memory;)V"⟩
def RX1 : String := "TernaryMatcher$Memory"
def TX1 : u_T := fun k => match k with
  | 0 => ("TernaryMatcher$Memory", "ruleAt", "[I", true)
  | 1 => ("TernaryMatcher$Memory", "partAt", "[I", true)
  | 2 => ("TernaryMatcher$Memory", "maskAt", "[I", true)
  | 3 => ("TernaryMatcher$Memory", "valueAt", "[I", true)
  | 4 => ("TernaryMatcher$Memory", "rankAt", "[I", true)
  | 5 => ("TernaryMatcher$Memory", "actionAt", "[I", true)
  | 6 => ("TernaryMatcher$Memory", "hitsAt", "[I", true)
  | 7 => ("TernaryMatcher$Memory", "placing", "I", false)
  | 8 => ("TernaryMatcher$Memory", "rulesAdded", "I", false)
  | 9 => ("TernaryMatcher$Memory", "entriesMoved", "I", false)
  | 10 => ("TernaryMatcher$Memory", "searches", "I", false)
  | _ => ("TernaryMatcher$Memory", "powers", "I", false)
def tyX1 : Nat → FieldType := fun k => match k with
  | 0 => .array .int
  | 1 => .array .int
  | 2 => .array .int
  | 3 => .array .int
  | 4 => .array .int
  | 5 => .array .int
  | 6 => .array .int
  | 7 => .int
  | 8 => .int
  | 9 => .int
  | 10 => .int
  | _ => .int
abbrev wsX10 : List Cond := u_ws RX1 TX1 12
theorem nmX1 : ∀ a, a < 12 → ∀ b, b < 12 → a ≠ b → (TX1 a).2.1 ≠ (TX1 b).2.1 := by decide +kernel
theorem tyX1_ok : ∀ k, k < 12 → parseFieldDescriptor (TX1 k).2.2.1 = some (tyX1 k) := by decide +kernel
abbrev cX1_init : ByteArray := prog_3_method_1_code
def yX1_init : MethodName := ⟨RX1, "<init>", "()V"⟩
abbrev cX1_copyFrom : ByteArray := prog_3_method_2_code
def yX1_copyFrom : MethodName := ⟨RX1, "copyFrom", "(LTernaryMatcher$Memory;)V"⟩
abbrev cX1_holdsEntry : ByteArray := prog_3_method_3_code
def yX1_holdsEntry : MethodName := ⟨RX1, "holdsEntry", "(I)Z"⟩
abbrev cX1_told : ByteArray := prog_3_method_4_code
def yX1_told : MethodName := ⟨RX1, "told", "([II)I"⟩
abbrev cX1_entries : ByteArray := prog_3_method_5_code
def yX1_entries : MethodName := ⟨RX1, "entries", "()I"⟩
abbrev cX1_freeSlots : ByteArray := prog_3_method_6_code
def yX1_freeSlots : MethodName := ⟨RX1, "freeSlots", "()I"⟩
abbrev cX1_rules : ByteArray := prog_3_method_7_code
def yX1_rules : MethodName := ⟨RX1, "rules", "()I"⟩
abbrev cX1_entriesOf : ByteArray := prog_3_method_8_code
def yX1_entriesOf : MethodName := ⟨RX1, "entriesOf", "(I)I"⟩
abbrev cX1_slotHolding : ByteArray := prog_3_method_9_code
def yX1_slotHolding : MethodName := ⟨RX1, "slotHolding", "(II)I"⟩
abbrev cX1_dropEntriesOf : ByteArray := prog_3_method_10_code
def yX1_dropEntriesOf : MethodName := ⟨RX1, "dropEntriesOf", "(I)V"⟩
abbrev cX1_addSingle : ByteArray := prog_3_method_11_code
def yX1_addSingle : MethodName := ⟨RX1, "addSingle", "(IIII)I"⟩
abbrev cX1_addBlocks : ByteArray := prog_3_method_12_code
def yX1_addBlocks : MethodName := ⟨RX1, "addBlocks", "(IIII)I"⟩
abbrev cX1_fill : ByteArray := prog_3_method_13_code
def yX1_fill : MethodName := ⟨RX1, "fill", "(IIIIIII)V"⟩
abbrev cX1_openSlot : ByteArray := prog_3_method_14_code
def yX1_openSlot : MethodName := ⟨RX1, "openSlot", "(I)I"⟩
abbrev cX1_movesFor : ByteArray := prog_3_method_15_code
def yX1_movesFor : MethodName := ⟨RX1, "movesFor", "(I)I"⟩
abbrev cX1_lastSlotUpTo : ByteArray := prog_3_method_16_code
def yX1_lastSlotUpTo : MethodName := ⟨RX1, "lastSlotUpTo", "(I)I"⟩
abbrev cX1_firstSlotBeyond : ByteArray := prog_3_method_17_code
def yX1_firstSlotBeyond : MethodName := ⟨RX1, "firstSlotBeyond", "(I)I"⟩
abbrev cX1_placeBetween : ByteArray := prog_3_method_18_code
def yX1_placeBetween : MethodName := ⟨RX1, "placeBetween", "(II)I"⟩
abbrev cX1_movesUpFrom : ByteArray := prog_3_method_19_code
def yX1_movesUpFrom : MethodName := ⟨RX1, "movesUpFrom", "(I)I"⟩
abbrev cX1_movesDownFrom : ByteArray := prog_3_method_20_code
def yX1_movesDownFrom : MethodName := ⟨RX1, "movesDownFrom", "(I)I"⟩
abbrev cX1_moveUp : ByteArray := prog_3_method_21_code
def yX1_moveUp : MethodName := ⟨RX1, "moveUp", "(II)V"⟩
abbrev cX1_moveDown : ByteArray := prog_3_method_22_code
def yX1_moveDown : MethodName := ⟨RX1, "moveDown", "(II)V"⟩
abbrev cX1_moveEntry : ByteArray := prog_3_method_23_code
def yX1_moveEntry : MethodName := ⟨RX1, "moveEntry", "(II)V"⟩
abbrev cX1_firstSlotOfShare : ByteArray := prog_3_method_24_code
def yX1_firstSlotOfShare : MethodName := ⟨RX1, "firstSlotOfShare", "(II)I"⟩
abbrev cX1_entriesOutOfShare : ByteArray := prog_3_method_25_code
def yX1_entriesOutOfShare : MethodName := ⟨RX1, "entriesOutOfShare", "(I)I"⟩
abbrev cX1_moveIntoShares : ByteArray := prog_3_method_26_code
def yX1_moveIntoShares : MethodName := ⟨RX1, "moveIntoShares", "(I)V"⟩
abbrev cX1_moveToFront : ByteArray := prog_3_method_27_code
def yX1_moveToFront : MethodName := ⟨RX1, "moveToFront", "()I"⟩
abbrev cX1_slotFoundBy : ByteArray := prog_3_method_28_code
def yX1_slotFoundBy : MethodName := ⟨RX1, "slotFoundBy", "(I)I"⟩
abbrev cX1_keysFinding : ByteArray := prog_3_method_29_code
def yX1_keysFinding : MethodName := ⟨RX1, "keysFinding", "(I)I"⟩
abbrev cX1_entriesNeverFound : ByteArray := prog_3_method_30_code
def yX1_entriesNeverFound : MethodName := ⟨RX1, "entriesNeverFound", "()I"⟩
abbrev cX1_countSearch : ByteArray := prog_3_method_31_code
def yX1_countSearch : MethodName := ⟨RX1, "countSearch", "(II)V"⟩
abbrev cX1_slotHiding : ByteArray := prog_3_method_32_code
def yX1_slotHiding : MethodName := ⟨RX1, "slotHiding", "(I)I"⟩
abbrev cX1_entriesInBank : ByteArray := prog_3_method_33_code
def yX1_entriesInBank : MethodName := ⟨RX1, "entriesInBank", "(I)I"⟩
abbrev cX1_powerFor : ByteArray := prog_3_method_34_code
def yX1_powerFor : MethodName := ⟨RX1, "powerFor", "(I)I"⟩
abbrev cX1_commonMask : ByteArray := prog_3_method_35_code
def yX1_commonMask : MethodName := ⟨RX1, "commonMask", "(I)I"⟩
abbrev cX1_commonValue : ByteArray := prog_3_method_36_code
def yX1_commonValue : MethodName := ⟨RX1, "commonValue", "(I)I"⟩
abbrev cX1_firstEntryOfBank : ByteArray := prog_3_method_37_code
def yX1_firstEntryOfBank : MethodName := ⟨RX1, "firstEntryOfBank", "(I)I"⟩
def RX2 : String := "TernaryMatcher$RuleText"
def TX2 : u_T := fun k => match k with
  | 0 => ("TernaryMatcher$RuleText", "signs", "[I", true)
  | 1 => ("TernaryMatcher$RuleText", "length", "I", false)
  | 2 => ("TernaryMatcher$RuleText", "at", "I", false)
  | 3 => ("TernaryMatcher$RuleText", "rulesRead", "I", false)
  | 4 => ("TernaryMatcher$RuleText", "masks", "[I", true)
  | 5 => ("TernaryMatcher$RuleText", "values", "[I", true)
  | 6 => ("TernaryMatcher$RuleText", "ranks", "[I", true)
  | _ => ("TernaryMatcher$RuleText", "actions", "[I", true)
def tyX2 : Nat → FieldType := fun k => match k with
  | 0 => .array .int
  | 1 => .int
  | 2 => .int
  | 3 => .int
  | 4 => .array .int
  | 5 => .array .int
  | 6 => .array .int
  | _ => .array .int
abbrev wsX20 : List Cond := u_ws RX2 TX2 8
theorem nmX2 : ∀ a, a < 8 → ∀ b, b < 8 → a ≠ b → (TX2 a).2.1 ≠ (TX2 b).2.1 := by decide +kernel
theorem tyX2_ok : ∀ k, k < 8 → parseFieldDescriptor (TX2 k).2.2.1 = some (tyX2 k) := by decide +kernel
abbrev cX2_init : ByteArray := prog_4_method_1_code
def yX2_init : MethodName := ⟨RX2, "<init>", "()V"⟩
abbrev cX2_append : ByteArray := prog_4_method_2_code
def yX2_append : MethodName := ⟨RX2, "append", "(C)Z"⟩
abbrev cX2_readRules : ByteArray := prog_4_method_3_code
def yX2_readRules : MethodName := ⟨RX2, "readRules", "()I"⟩
abbrev cX2_sign : ByteArray := prog_4_method_4_code
def yX2_sign : MethodName := ⟨RX2, "sign", "()I"⟩
abbrev cX2_digit : ByteArray := prog_4_method_5_code
def yX2_digit : MethodName := ⟨RX2, "digit", "()I"⟩
abbrev cX2_skip : ByteArray := prog_4_method_6_code
def yX2_skip : MethodName := ⟨RX2, "skip", "(C)Z"⟩
abbrev cX2_readEntry : ByteArray := prog_4_method_7_code
def yX2_readEntry : MethodName := ⟨RX2, "readEntry", "(I)Z"⟩
abbrev cX2_readRank : ByteArray := prog_4_method_8_code
def yX2_readRank : MethodName := ⟨RX2, "readRank", "(I)Z"⟩
abbrev cX2_readAction : ByteArray := prog_4_method_9_code
def yX2_readAction : MethodName := ⟨RX2, "readAction", "(I)Z"⟩
def RX3 : String := "TernaryMatcher"
def TX3 : u_T := fun k => match k with
  | 0 => ("TernaryMatcher", "memory", "LTernaryMatcher$Memory;", true)
  | 1 => ("TernaryMatcher", "snapshot", "LTernaryMatcher$Memory;", true)
  | 2 => ("TernaryMatcher", "history", "LTernaryMatcher$History;", true)
  | 3 => ("TernaryMatcher", "text", "LTernaryMatcher$RuleText;", true)
  | _ => ("TernaryMatcher", "snapshotTaken", "Z", false)
def tyX3 : Nat → FieldType := fun k => match k with
  | 0 => .object "TernaryMatcher$Memory"
  | 1 => .object "TernaryMatcher$Memory"
  | 2 => .object "TernaryMatcher$History"
  | 3 => .object "TernaryMatcher$RuleText"
  | _ => .boolean
abbrev wsX30 : List Cond := u_ws RX3 TX3 5
theorem nmX3 : ∀ a, a < 5 → ∀ b, b < 5 → a ≠ b → (TX3 a).2.1 ≠ (TX3 b).2.1 := by decide +kernel
theorem tyX3_ok : ∀ k, k < 5 → parseFieldDescriptor (TX3 k).2.2.1 = some (tyX3 k) := by decide +kernel
abbrev cX3_init : ByteArray := prog_1_method_1_code
def yX3_init : MethodName := ⟨RX3, "<init>", "()V"⟩
abbrev cX3_addRule : ByteArray := prog_1_method_2_code
def yX3_addRule : MethodName := ⟨RX3, "addRule", "(IIII)I"⟩
abbrev cX3_addRange : ByteArray := prog_1_method_3_code
def yX3_addRange : MethodName := ⟨RX3, "addRange", "(IIII)I"⟩
abbrev cX3_remove : ByteArray := prog_1_method_4_code
def yX3_remove : MethodName := ⟨RX3, "remove", "(I)I"⟩
abbrev cX3_setPlacing : ByteArray := prog_1_method_5_code
def yX3_setPlacing : MethodName := ⟨RX3, "setPlacing", "(I)I"⟩
abbrev cX3_compact : ByteArray := prog_1_method_6_code
def yX3_compact : MethodName := ⟨RX3, "compact", "()I"⟩
abbrev cX3_spread : ByteArray := prog_1_method_7_code
def yX3_spread : MethodName := ⟨RX3, "spread", "()I"⟩
abbrev cX3_search : ByteArray := prog_1_method_8_code
def yX3_search : MethodName := ⟨RX3, "search", "(I)I"⟩
abbrev cX3_type : ByteArray := prog_1_method_9_code
def yX3_type : MethodName := ⟨RX3, "type", "(C)I"⟩
abbrev cX3_clearText : ByteArray := prog_1_method_10_code
def yX3_clearText : MethodName := ⟨RX3, "clearText", "()I"⟩
abbrev cX3_addText : ByteArray := prog_1_method_11_code
def yX3_addText : MethodName := ⟨RX3, "addText", "()I"⟩
abbrev cX3_undo : ByteArray := prog_1_method_12_code
def yX3_undo : MethodName := ⟨RX3, "undo", "()I"⟩
abbrev cX3_keep : ByteArray := prog_1_method_13_code
def yX3_keep : MethodName := ⟨RX3, "keep", "()I"⟩
abbrev cX3_restore : ByteArray := prog_1_method_14_code
def yX3_restore : MethodName := ⟨RX3, "restore", "()I"⟩
abbrev cX3_ruleIn : ByteArray := prog_1_method_15_code
def yX3_ruleIn : MethodName := ⟨RX3, "ruleIn", "(I)I"⟩
abbrev cX3_maskIn : ByteArray := prog_1_method_16_code
def yX3_maskIn : MethodName := ⟨RX3, "maskIn", "(I)I"⟩
abbrev cX3_valueIn : ByteArray := prog_1_method_17_code
def yX3_valueIn : MethodName := ⟨RX3, "valueIn", "(I)I"⟩
abbrev cX3_sortIn : ByteArray := prog_1_method_18_code
def yX3_sortIn : MethodName := ⟨RX3, "sortIn", "(I)I"⟩
abbrev cX3_slotOf : ByteArray := prog_1_method_19_code
def yX3_slotOf : MethodName := ⟨RX3, "slotOf", "(II)I"⟩
abbrev cX3_parts : ByteArray := prog_1_method_20_code
def yX3_parts : MethodName := ⟨RX3, "parts", "(I)I"⟩
abbrev cX3_rank : ByteArray := prog_1_method_21_code
def yX3_rank : MethodName := ⟨RX3, "rank", "(I)I"⟩
abbrev cX3_action : ByteArray := prog_1_method_22_code
def yX3_action : MethodName := ⟨RX3, "action", "(I)I"⟩
abbrev cX3_hits : ByteArray := prog_1_method_23_code
def yX3_hits : MethodName := ⟨RX3, "hits", "(I)I"⟩
abbrev cX3_find : ByteArray := prog_1_method_24_code
def yX3_find : MethodName := ⟨RX3, "find", "(I)I"⟩
abbrev cX3_power : ByteArray := prog_1_method_25_code
def yX3_power : MethodName := ⟨RX3, "power", "(I)I"⟩
abbrev cX3_filterMask : ByteArray := prog_1_method_26_code
def yX3_filterMask : MethodName := ⟨RX3, "filterMask", "(I)I"⟩
abbrev cX3_filterValue : ByteArray := prog_1_method_27_code
def yX3_filterValue : MethodName := ⟨RX3, "filterValue", "(I)I"⟩
abbrev cX3_hiddenBy : ByteArray := prog_1_method_28_code
def yX3_hiddenBy : MethodName := ⟨RX3, "hiddenBy", "(I)I"⟩
abbrev cX3_keysFor : ByteArray := prog_1_method_29_code
def yX3_keysFor : MethodName := ⟨RX3, "keysFor", "(I)I"⟩
abbrev cX3_wouldMove : ByteArray := prog_1_method_30_code
def yX3_wouldMove : MethodName := ⟨RX3, "wouldMove", "(I)I"⟩
abbrev cX3_entriesFor : ByteArray := prog_1_method_31_code
def yX3_entriesFor : MethodName := ⟨RX3, "entriesFor", "(II)I"⟩
abbrev cX3_total : ByteArray := prog_1_method_32_code
def yX3_total : MethodName := ⟨RX3, "total", "(I)I"⟩
abbrev cX3_rearrange : ByteArray := prog_1_method_33_code
def yX3_rearrange : MethodName := ⟨RX3, "rearrange", "(I)I"⟩
abbrev cX3_isSlot : ByteArray := prog_1_method_34_code
def yX3_isSlot : MethodName := ⟨RX3, "isSlot", "(I)Z"⟩
abbrev cX3_isBank : ByteArray := prog_1_method_35_code
def yX3_isBank : MethodName := ⟨RX3, "isBank", "(I)Z"⟩
abbrev cX3_isKey : ByteArray := prog_1_method_36_code
def yX3_isKey : MethodName := ⟨RX3, "isKey", "(I)Z"⟩
abbrev cX3_isRange : ByteArray := prog_1_method_37_code
def yX3_isRange : MethodName := ⟨RX3, "isRange", "(II)Z"⟩
abbrev cX3_isRank : ByteArray := prog_1_method_38_code
def yX3_isRank : MethodName := ⟨RX3, "isRank", "(I)Z"⟩
abbrev cX3_isAction : ByteArray := prog_1_method_39_code
def yX3_isAction : MethodName := ⟨RX3, "isAction", "(I)Z"⟩
abbrev cX3_sortOfMask : ByteArray := prog_1_method_40_code
def yX3_sortOfMask : MethodName := ⟨RX3, "sortOfMask", "(I)I"⟩
abbrev cX3_blocksOf : ByteArray := prog_1_method_41_code
def yX3_blocksOf : MethodName := ⟨RX3, "blocksOf", "(II)I"⟩
abbrev cX3_blockSize : ByteArray := prog_1_method_42_code
def yX3_blockSize : MethodName := ⟨RX3, "blockSize", "(II)I"⟩
abbrev cX3_copyState : ByteArray := prog_1_method_43_code
def yX3_copyState : MethodName := ⟨RX3, "copyState", "(LTernaryMatcher$Memory;LTernaryMatcher$Memory;)V"⟩
def RX4 : String := "TernaryMatcherModel"
def TX4 : u_T := fun k => match k with
  | 0 => ("TernaryMatcherModel", "now", "[I", true)
  | 1 => ("TernaryMatcherModel", "spare", "[I", true)
  | 2 => ("TernaryMatcherModel", "past", "[I", true)
  | 3 => ("TernaryMatcherModel", "states", "I", false)
  | 4 => ("TernaryMatcherModel", "kept", "[I", true)
  | 5 => ("TernaryMatcherModel", "isKept", "Z", false)
  | 6 => ("TernaryMatcherModel", "text", "[I", true)
  | 7 => ("TernaryMatcherModel", "length", "I", false)
  | 8 => ("TernaryMatcherModel", "told", "[I", true)
  | 9 => ("TernaryMatcherModel", "toldMany", "I", false)
  | _ => ("TernaryMatcherModel", "spot", "I", false)
def tyX4 : Nat → FieldType := fun k => match k with
  | 0 => .array .int
  | 1 => .array .int
  | 2 => .array .int
  | 3 => .int
  | 4 => .array .int
  | 5 => .boolean
  | 6 => .array .int
  | 7 => .int
  | 8 => .array .int
  | 9 => .int
  | _ => .int
abbrev wsX40 : List Cond := u_ws RX4 TX4 11
theorem nmX4 : ∀ a, a < 11 → ∀ b, b < 11 → a ≠ b → (TX4 a).2.1 ≠ (TX4 b).2.1 := by decide +kernel
theorem tyX4_ok : ∀ k, k < 11 → parseFieldDescriptor (TX4 k).2.2.1 = some (tyX4 k) := by decide +kernel
abbrev cX4_init : ByteArray := prog_6_method_1_code
def yX4_init : MethodName := ⟨RX4, "<init>", "()V"⟩
abbrev cX4_in : ByteArray := prog_6_method_2_code
def yX4_in : MethodName := ⟨RX4, "in", "(III)Z"⟩
abbrev cX4_at : ByteArray := prog_6_method_3_code
def yX4_at : MethodName := ⟨RX4, "at", "(II)I"⟩
abbrev cX4_isFree : ByteArray := prog_6_method_4_code
def yX4_isFree : MethodName := ⟨RX4, "isFree", "(I)Z"⟩
abbrev cX4_isSlot : ByteArray := prog_6_method_5_code
def yX4_isSlot : MethodName := ⟨RX4, "isSlot", "(I)Z"⟩
abbrev cX4_copyState : ByteArray := prog_6_method_6_code
def yX4_copyState : MethodName := ⟨RX4, "copyState", "([II[II)V"⟩
abbrev cX4_record : ByteArray := prog_6_method_7_code
def yX4_record : MethodName := ⟨RX4, "record", "()V"⟩
abbrev cX4_undo : ByteArray := prog_6_method_8_code
def yX4_undo : MethodName := ⟨RX4, "undo", "()I"⟩
abbrev cX4_keep : ByteArray := prog_6_method_9_code
def yX4_keep : MethodName := ⟨RX4, "keep", "()I"⟩
abbrev cX4_restore : ByteArray := prog_6_method_10_code
def yX4_restore : MethodName := ⟨RX4, "restore", "()I"⟩
abbrev cX4_entries : ByteArray := prog_6_method_11_code
def yX4_entries : MethodName := ⟨RX4, "entries", "()I"⟩
abbrev cX4_freeSlots : ByteArray := prog_6_method_12_code
def yX4_freeSlots : MethodName := ⟨RX4, "freeSlots", "()I"⟩
abbrev cX4_lastUpTo : ByteArray := prog_6_method_13_code
def yX4_lastUpTo : MethodName := ⟨RX4, "lastUpTo", "(I)I"⟩
abbrev cX4_firstAbove : ByteArray := prog_6_method_14_code
def yX4_firstAbove : MethodName := ⟨RX4, "firstAbove", "(I)I"⟩
abbrev cX4_freeBehind : ByteArray := prog_6_method_15_code
def yX4_freeBehind : MethodName := ⟨RX4, "freeBehind", "(I)I"⟩
abbrev cX4_freeAhead : ByteArray := prog_6_method_16_code
def yX4_freeAhead : MethodName := ⟨RX4, "freeAhead", "(I)I"⟩
abbrev cX4_copyEntry : ByteArray := prog_6_method_17_code
def yX4_copyEntry : MethodName := ⟨RX4, "copyEntry", "(II)V"⟩
abbrev cX4_moves : ByteArray := prog_6_method_18_code
def yX4_moves : MethodName := ⟨RX4, "moves", "(I)I"⟩
abbrev cX4_makeRoom : ByteArray := prog_6_method_19_code
def yX4_makeRoom : MethodName := ⟨RX4, "makeRoom", "(I)I"⟩
abbrev cX4_put : ByteArray := prog_6_method_20_code
def yX4_put : MethodName := ⟨RX4, "put", "(IIIIIII)V"⟩
abbrev cX4_clearSlot : ByteArray := prog_6_method_21_code
def yX4_clearSlot : MethodName := ⟨RX4, "clearSlot", "(I)V"⟩
abbrev cX4_isByte : ByteArray := prog_6_method_22_code
def yX4_isByte : MethodName := ⟨RX4, "isByte", "(I)Z"⟩
abbrev cX4_isRankAndAction : ByteArray := prog_6_method_23_code
def yX4_isRankAndAction : MethodName := ⟨RX4, "isRankAndAction", "(II)Z"⟩
abbrev cX4_isRange : ByteArray := prog_6_method_24_code
def yX4_isRange : MethodName := ⟨RX4, "isRange", "(II)Z"⟩
abbrev cX4_add : ByteArray := prog_6_method_25_code
def yX4_add : MethodName := ⟨RX4, "add", "(IIII)I"⟩
abbrev cX4_addRule : ByteArray := prog_6_method_26_code
def yX4_addRule : MethodName := ⟨RX4, "addRule", "(IIII)I"⟩
abbrev cX4_block : ByteArray := prog_6_method_27_code
def yX4_block : MethodName := ⟨RX4, "block", "(II)I"⟩
abbrev cX4_blocks : ByteArray := prog_6_method_28_code
def yX4_blocks : MethodName := ⟨RX4, "blocks", "(II)I"⟩
abbrev cX4_addRange : ByteArray := prog_6_method_29_code
def yX4_addRange : MethodName := ⟨RX4, "addRange", "(IIII)I"⟩
abbrev cX4_slotWith : ByteArray := prog_6_method_30_code
def yX4_slotWith : MethodName := ⟨RX4, "slotWith", "(II)I"⟩
abbrev cX4_isRule : ByteArray := prog_6_method_31_code
def yX4_isRule : MethodName := ⟨RX4, "isRule", "(I)Z"⟩
abbrev cX4_partsOf : ByteArray := prog_6_method_32_code
def yX4_partsOf : MethodName := ⟨RX4, "partsOf", "(I)I"⟩
abbrev cX4_remove : ByteArray := prog_6_method_33_code
def yX4_remove : MethodName := ⟨RX4, "remove", "(I)I"⟩
abbrev cX4_setPlacing : ByteArray := prog_6_method_34_code
def yX4_setPlacing : MethodName := ⟨RX4, "setPlacing", "(I)I"⟩
abbrev cX4_target : ByteArray := prog_6_method_35_code
def yX4_target : MethodName := ⟨RX4, "target", "(IIZ)I"⟩
abbrev cX4_rearrange : ByteArray := prog_6_method_36_code
def yX4_rearrange : MethodName := ⟨RX4, "rearrange", "(Z)I"⟩
abbrev cX4_compact : ByteArray := prog_6_method_37_code
def yX4_compact : MethodName := ⟨RX4, "compact", "()I"⟩
abbrev cX4_spread : ByteArray := prog_6_method_38_code
def yX4_spread : MethodName := ⟨RX4, "spread", "()I"⟩
abbrev cX4_matches : ByteArray := prog_6_method_39_code
def yX4_matches : MethodName := ⟨RX4, "matches", "(II)Z"⟩
abbrev cX4_slotFor : ByteArray := prog_6_method_40_code
def yX4_slotFor : MethodName := ⟨RX4, "slotFor", "(I)I"⟩
abbrev cX4_entriesIn : ByteArray := prog_6_method_41_code
def yX4_entriesIn : MethodName := ⟨RX4, "entriesIn", "(I)I"⟩
abbrev cX4_filter : ByteArray := prog_6_method_42_code
def yX4_filter : MethodName := ⟨RX4, "filter", "(IZ)I"⟩
abbrev cX4_powerOf : ByteArray := prog_6_method_43_code
def yX4_powerOf : MethodName := ⟨RX4, "powerOf", "(I)I"⟩
abbrev cX4_search : ByteArray := prog_6_method_44_code
def yX4_search : MethodName := ⟨RX4, "search", "(I)I"⟩
abbrev cX4_find : ByteArray := prog_6_method_45_code
def yX4_find : MethodName := ⟨RX4, "find", "(I)I"⟩
abbrev cX4_power : ByteArray := prog_6_method_46_code
def yX4_power : MethodName := ⟨RX4, "power", "(I)I"⟩
abbrev cX4_filterMask : ByteArray := prog_6_method_47_code
def yX4_filterMask : MethodName := ⟨RX4, "filterMask", "(I)I"⟩
abbrev cX4_filterValue : ByteArray := prog_6_method_48_code
def yX4_filterValue : MethodName := ⟨RX4, "filterValue", "(I)I"⟩
abbrev cX4_type : ByteArray := prog_6_method_49_code
def yX4_type : MethodName := ⟨RX4, "type", "(C)I"⟩
abbrev cX4_clearText : ByteArray := prog_6_method_50_code
def yX4_clearText : MethodName := ⟨RX4, "clearText", "()I"⟩
abbrev cX4_sees : ByteArray := prog_6_method_51_code
def yX4_sees : MethodName := ⟨RX4, "sees", "(II)Z"⟩
abbrev cX4_takes : ByteArray := prog_6_method_52_code
def yX4_takes : MethodName := ⟨RX4, "takes", "(I)Z"⟩
abbrev cX4_number : ByteArray := prog_6_method_53_code
def yX4_number : MethodName := ⟨RX4, "number", "(I)I"⟩
abbrev cX4_readRule : ByteArray := prog_6_method_54_code
def yX4_readRule : MethodName := ⟨RX4, "readRule", "()Z"⟩
abbrev cX4_readText : ByteArray := prog_6_method_55_code
def yX4_readText : MethodName := ⟨RX4, "readText", "()Z"⟩
abbrev cX4_addText : ByteArray := prog_6_method_56_code
def yX4_addText : MethodName := ⟨RX4, "addText", "()I"⟩
abbrev cX4_inSlot : ByteArray := prog_6_method_57_code
def yX4_inSlot : MethodName := ⟨RX4, "inSlot", "(II)I"⟩
abbrev cX4_ruleIn : ByteArray := prog_6_method_58_code
def yX4_ruleIn : MethodName := ⟨RX4, "ruleIn", "(I)I"⟩
abbrev cX4_maskIn : ByteArray := prog_6_method_59_code
def yX4_maskIn : MethodName := ⟨RX4, "maskIn", "(I)I"⟩
abbrev cX4_valueIn : ByteArray := prog_6_method_60_code
def yX4_valueIn : MethodName := ⟨RX4, "valueIn", "(I)I"⟩
abbrev cX4_sortIn : ByteArray := prog_6_method_61_code
def yX4_sortIn : MethodName := ⟨RX4, "sortIn", "(I)I"⟩
abbrev cX4_slotOf : ByteArray := prog_6_method_62_code
def yX4_slotOf : MethodName := ⟨RX4, "slotOf", "(II)I"⟩
abbrev cX4_parts : ByteArray := prog_6_method_63_code
def yX4_parts : MethodName := ⟨RX4, "parts", "(I)I"⟩
abbrev cX4_ofRule : ByteArray := prog_6_method_64_code
def yX4_ofRule : MethodName := ⟨RX4, "ofRule", "(II)I"⟩
abbrev cX4_rank : ByteArray := prog_6_method_65_code
def yX4_rank : MethodName := ⟨RX4, "rank", "(I)I"⟩
abbrev cX4_action : ByteArray := prog_6_method_66_code
def yX4_action : MethodName := ⟨RX4, "action", "(I)I"⟩
abbrev cX4_hits : ByteArray := prog_6_method_67_code
def yX4_hits : MethodName := ⟨RX4, "hits", "(I)I"⟩
abbrev cX4_hides : ByteArray := prog_6_method_68_code
def yX4_hides : MethodName := ⟨RX4, "hides", "(II)Z"⟩
abbrev cX4_hiddenBy : ByteArray := prog_6_method_69_code
def yX4_hiddenBy : MethodName := ⟨RX4, "hiddenBy", "(I)I"⟩
abbrev cX4_keysWith : ByteArray := prog_6_method_70_code
def yX4_keysWith : MethodName := ⟨RX4, "keysWith", "(I)I"⟩
abbrev cX4_keysFor : ByteArray := prog_6_method_71_code
def yX4_keysFor : MethodName := ⟨RX4, "keysFor", "(I)I"⟩
abbrev cX4_wouldMove : ByteArray := prog_6_method_72_code
def yX4_wouldMove : MethodName := ⟨RX4, "wouldMove", "(I)I"⟩
abbrev cX4_entriesFor : ByteArray := prog_6_method_73_code
def yX4_entriesFor : MethodName := ⟨RX4, "entriesFor", "(II)I"⟩
abbrev cX4_rules : ByteArray := prog_6_method_74_code
def yX4_rules : MethodName := ⟨RX4, "rules", "()I"⟩
abbrev cX4_entriesWithoutKeys : ByteArray := prog_6_method_75_code
def yX4_entriesWithoutKeys : MethodName := ⟨RX4, "entriesWithoutKeys", "()I"⟩
abbrev cX4_total : ByteArray := prog_6_method_76_code
def yX4_total : MethodName := ⟨RX4, "total", "(I)I"⟩
def RJ6 : String := "java/lang/Integer"
def TJ6 : u_T := fun k => match k with
  | _ => ("", "", "", false)
def tyJ6 : Nat → FieldType := fun k => match k with
  | _ => .int
abbrev wsJ60 : List Cond := u_ws RJ6 TJ6 0
theorem nmJ6 : ∀ a, a < 0 → ∀ b, b < 0 → a ≠ b → (TJ6 a).2.1 ≠ (TJ6 b).2.1 := by decide +kernel
theorem tyJ6_ok : ∀ k, k < 0 → parseFieldDescriptor (TJ6 k).2.2.1 = some (tyJ6 k) := by decide +kernel
abbrev cJ6_bitCount_0f7a4 : ByteArray := prog_7_method_49_code
def yJ6_bitCount_0f7a4 : MethodName := ⟨RJ6, "bitCount", "(I)I"⟩
def RJ9 : String := "java/lang/Math"
def TJ9 : u_T := fun k => match k with
  | _ => ("", "", "", false)
def tyJ9 : Nat → FieldType := fun k => match k with
  | _ => .int
abbrev wsJ90 : List Cond := u_ws RJ9 TJ9 0
theorem nmJ9 : ∀ a, a < 0 → ∀ b, b < 0 → a ≠ b → (TJ9 a).2.1 ≠ (TJ9 b).2.1 := by decide +kernel
theorem tyJ9_ok : ∀ k, k < 0 → parseFieldDescriptor (TJ9 k).2.2.1 = some (tyJ9 k) := by decide +kernel
abbrev cJ9_floorMod_7cf53 : ByteArray := prog_8_method_50_code
def yJ9_floorMod_7cf53 : MethodName := ⟨RJ9, "floorMod", "(II)I"⟩
abbrev cJ9_min_7cf53 : ByteArray := prog_8_method_69_code
def yJ9_min_7cf53 : MethodName := ⟨RJ9, "min", "(II)I"⟩
def RL : String := "TernaryMatcherLaw"
abbrev cL_law : ByteArray := code
def yL_law : MethodName := ⟨RL, "law", "([I)Z"⟩
/-- the good words of the tables: what a callee may take from its caller -/
def gw : List Cond := lw_tbl.filter goodWord
theorem xg_r {w : Cond} {i : Nat} (h : tables_1[i]? = some w) (hg : goodWord w = true) : w ∈ gw := List.mem_filter.mpr ⟨List.mem_append_right _ (List.mem_of_getElem? h), hg⟩
theorem xg_l {w : Cond} {i : Nat} (h : (k2_sels lw_privs)[i]? = some w) (hg : goodWord w = true) : w ∈ gw := List.mem_filter.mpr ⟨List.mem_append_left _ (List.mem_of_getElem? h), hg⟩
def xisNest : Cond → Bool
  | .methodLinkNest .. => true
  | .fieldLinkNest .. => true
  | _ => false
def xnw : List Cond := tables_1.filter xisNest
theorem xn_r {w : Cond} {i : Nat} (h : tables_1[i]? = some w) (hg : xisNest w = true) : w ∈ xnw := List.mem_filter.mpr ⟨List.mem_of_getElem? h, hg⟩
/-- a method: its name, bytes, locals, what it returns, how deep its calls go -/
abbrev xMI : Type := MethodName × ByteArray × Nat × Option FieldType × Nat
def xCal (mi : xMI) (n : Nat) : Prop := Cond.code mi.1 mi.2.1 mi.2.2.1 mi.2.2.2.1 ∈ gw ∧ Cond.initialized mi.1.cls ∈ gw ∧ (mi.1.cls ≠ "java/lang/invoke/MethodHandle" ∧ mi.1.cls ≠ "java/lang/invoke/VarHandle" ∧ (parseMethodDescriptor mi.1.desc).map (fun d => d.parameters.length) = some n) ∧ plainFor mi.1 = true ∧ mi.2.2.1 ≤ 11
def xVir (mi : xMI) : Prop := Cond.instanceMethod mi.1 ∈ gw ∧ Cond.selects mi.1.cls mi.1 mi.1 ∈ gw
def xSta (mi : xMI) : Prop := Cond.static mi.1 ∈ gw
theorem xi_X0 : Cond.initialized RX0 ∈ gw := xg_r (i := 3) (by decide +kernel) rfl
theorem xi_X1 : Cond.initialized RX1 ∈ gw := xg_r (i := 2) (by decide +kernel) rfl
theorem xi_X2 : Cond.initialized RX2 ∈ gw := xg_r (i := 4) (by decide +kernel) rfl
theorem xi_X3 : Cond.initialized RX3 ∈ gw := xg_r (i := 1) (by decide +kernel) rfl
theorem xi_X4 : Cond.initialized RX4 ∈ gw := xg_r (i := 5) (by decide +kernel) rfl
theorem xi_J6 : Cond.initialized RJ6 ∈ gw := xg_r (i := 7) (by decide +kernel) rfl
theorem xi_J9 : Cond.initialized RJ9 ∈ gw := xg_r (i := 6) (by decide +kernel) rfl
theorem xi_L : Cond.initialized RL ∈ gw := xg_r (i := 0) (by decide +kernel) rfl
def mX3_init : xMI := (yX3_init, cX3_init, 1, none, 2)
theorem fX3_init : xCal mX3_init 0 := ⟨xg_r (i := 12) (by decide +kernel) rfl, xi_X3, by decide +kernel, by decide +kernel, by decide⟩
theorem viX3_init : Cond.instanceMethod yX3_init ∈ gw := xg_r (i := 11) (by decide +kernel) rfl
def mX1_init : xMI := (yX1_init, cX1_init, 2, none, 0)
theorem fX1_init : xCal mX1_init 0 := ⟨xg_r (i := 20) (by decide +kernel) rfl, xi_X1, by decide +kernel, by decide +kernel, by decide⟩
theorem viX1_init : Cond.instanceMethod yX1_init ∈ gw := xg_r (i := 19) (by decide +kernel) rfl
def mX0_init : xMI := (yX0_init, cX0_init, 2, none, 1)
theorem fX0_init : xCal mX0_init 0 := ⟨xg_r (i := 75) (by decide +kernel) rfl, xi_X0, by decide +kernel, by decide +kernel, by decide⟩
theorem viX0_init : Cond.instanceMethod yX0_init ∈ gw := xg_r (i := 74) (by decide +kernel) rfl
def mX2_init : xMI := (yX2_init, cX2_init, 1, none, 0)
theorem fX2_init : xCal mX2_init 0 := ⟨xg_r (i := 95) (by decide +kernel) rfl, xi_X2, by decide +kernel, by decide +kernel, by decide⟩
theorem viX2_init : Cond.instanceMethod yX2_init ∈ gw := xg_r (i := 94) (by decide +kernel) rfl
def mX3_addRule : xMI := (yX3_addRule, cX3_addRule, 5, (some .int), 5)
theorem fX3_addRule : xCal mX3_addRule 4 := ⟨xg_r (i := 147) (by decide +kernel) rfl, xi_X3, by decide +kernel, by decide +kernel, by decide⟩
theorem vX3_addRule : xVir mX3_addRule := ⟨xg_r (i := 145) (by decide +kernel) rfl, xg_r (i := 146) (by decide +kernel) rfl⟩
def mX3_isKey : xMI := (yX3_isKey, cX3_isKey, 1, (some .boolean), 0)
theorem fX3_isKey : xCal mX3_isKey 1 := ⟨xg_r (i := 150) (by decide +kernel) rfl, xi_X3, by decide +kernel, by decide +kernel, by decide⟩
theorem sX3_isKey : xSta mX3_isKey := xg_r (i := 149) (by decide +kernel) rfl
def mX3_isRank : xMI := (yX3_isRank, cX3_isRank, 1, (some .boolean), 0)
theorem fX3_isRank : xCal mX3_isRank 1 := ⟨xg_r (i := 153) (by decide +kernel) rfl, xi_X3, by decide +kernel, by decide +kernel, by decide⟩
theorem sX3_isRank : xSta mX3_isRank := xg_r (i := 152) (by decide +kernel) rfl
def mX3_isAction : xMI := (yX3_isAction, cX3_isAction, 1, (some .boolean), 0)
theorem fX3_isAction : xCal mX3_isAction 1 := ⟨xg_r (i := 156) (by decide +kernel) rfl, xi_X3, by decide +kernel, by decide +kernel, by decide⟩
theorem sX3_isAction : xSta mX3_isAction := xg_r (i := 155) (by decide +kernel) rfl
def mX1_freeSlots : xMI := (yX1_freeSlots, cX1_freeSlots, 1, (some .int), 3)
theorem fX1_freeSlots : xCal mX1_freeSlots 0 := ⟨xg_r (i := 160) (by decide +kernel) rfl, xi_X1, by decide +kernel, by decide +kernel, by decide⟩
theorem vX1_freeSlots : xVir mX1_freeSlots := ⟨xg_r (i := 158) (by decide +kernel) rfl, xg_r (i := 159) (by decide +kernel) rfl⟩
def mX1_entries : xMI := (yX1_entries, cX1_entries, 3, (some .int), 2)
theorem fX1_entries : xCal mX1_entries 0 := ⟨xg_r (i := 164) (by decide +kernel) rfl, xi_X1, by decide +kernel, by decide +kernel, by decide⟩
theorem vX1_entries : xVir mX1_entries := ⟨xg_r (i := 162) (by decide +kernel) rfl, xg_r (i := 163) (by decide +kernel) rfl⟩
def mX1_entriesInBank : xMI := (yX1_entriesInBank, cX1_entriesInBank, 4, (some .int), 1)
theorem fX1_entriesInBank : xCal mX1_entriesInBank 1 := ⟨xg_r (i := 168) (by decide +kernel) rfl, xi_X1, by decide +kernel, by decide +kernel, by decide⟩
theorem vX1_entriesInBank : xVir mX1_entriesInBank := ⟨xg_r (i := 166) (by decide +kernel) rfl, xg_r (i := 167) (by decide +kernel) rfl⟩
def mX1_holdsEntry : xMI := (yX1_holdsEntry, cX1_holdsEntry, 2, (some .boolean), 0)
theorem fX1_holdsEntry : xCal mX1_holdsEntry 1 := ⟨xg_r (i := 172) (by decide +kernel) rfl, xi_X1, by decide +kernel, by decide +kernel, by decide⟩
theorem vX1_holdsEntry : xVir mX1_holdsEntry := ⟨xg_r (i := 170) (by decide +kernel) rfl, xg_r (i := 171) (by decide +kernel) rfl⟩
def mX0_record : xMI := (yX0_record, cX0_record, 2, none, 2)
theorem fX0_record : xCal mX0_record 1 := ⟨xg_r (i := 176) (by decide +kernel) rfl, xi_X0, by decide +kernel, by decide +kernel, by decide⟩
theorem vX0_record : xVir mX0_record := ⟨xg_r (i := 174) (by decide +kernel) rfl, xg_r (i := 175) (by decide +kernel) rfl⟩
def mJ9_floorMod_7cf53 : xMI := (yJ9_floorMod_7cf53, cJ9_floorMod_7cf53, 3, (some .int), 0)
theorem fJ9_floorMod_7cf53 : xCal mJ9_floorMod_7cf53 2 := ⟨xg_r (i := 179) (by decide +kernel) rfl, xi_J9, by decide +kernel, by decide +kernel, by decide⟩
theorem sJ9_floorMod_7cf53 : xSta mJ9_floorMod_7cf53 := xg_r (i := 178) (by decide +kernel) rfl
def mX3_copyState : xMI := (yX3_copyState, cX3_copyState, 2, none, 1)
theorem fX3_copyState : xCal mX3_copyState 2 := ⟨xg_r (i := 182) (by decide +kernel) rfl, xi_X3, by decide +kernel, by decide +kernel, by decide⟩
theorem sX3_copyState : xSta mX3_copyState := xg_r (i := 181) (by decide +kernel) rfl
def mX1_copyFrom : xMI := (yX1_copyFrom, cX1_copyFrom, 3, none, 0)
theorem fX1_copyFrom : xCal mX1_copyFrom 1 := ⟨xg_r (i := 186) (by decide +kernel) rfl, xi_X1, by decide +kernel, by decide +kernel, by decide⟩
theorem vX1_copyFrom : xVir mX1_copyFrom := ⟨xg_r (i := 184) (by decide +kernel) rfl, xg_r (i := 185) (by decide +kernel) rfl⟩
def mX1_addSingle : xMI := (yX1_addSingle, cX1_addSingle, 6, (some .int), 4)
theorem fX1_addSingle : xCal mX1_addSingle 4 := ⟨xg_r (i := 190) (by decide +kernel) rfl, xi_X1, by decide +kernel, by decide +kernel, by decide⟩
theorem vX1_addSingle : xVir mX1_addSingle := ⟨xg_r (i := 188) (by decide +kernel) rfl, xg_r (i := 189) (by decide +kernel) rfl⟩
def mX1_openSlot : xMI := (yX1_openSlot, cX1_openSlot, 6, (some .int), 3)
theorem fX1_openSlot : xCal mX1_openSlot 1 := ⟨xg_r (i := 194) (by decide +kernel) rfl, xi_X1, by decide +kernel, by decide +kernel, by decide⟩
theorem vX1_openSlot : xVir mX1_openSlot := ⟨xg_r (i := 193) (by decide +kernel) rfl, xg_l (i := 0) (by decide +kernel) rfl⟩
def mX1_lastSlotUpTo : xMI := (yX1_lastSlotUpTo, cX1_lastSlotUpTo, 3, (some .int), 1)
theorem fX1_lastSlotUpTo : xCal mX1_lastSlotUpTo 1 := ⟨xg_r (i := 198) (by decide +kernel) rfl, xi_X1, by decide +kernel, by decide +kernel, by decide⟩
theorem vX1_lastSlotUpTo : xVir mX1_lastSlotUpTo := ⟨xg_r (i := 197) (by decide +kernel) rfl, xg_l (i := 1) (by decide +kernel) rfl⟩
def mX1_firstSlotBeyond : xMI := (yX1_firstSlotBeyond, cX1_firstSlotBeyond, 3, (some .int), 1)
theorem fX1_firstSlotBeyond : xCal mX1_firstSlotBeyond 1 := ⟨xg_r (i := 202) (by decide +kernel) rfl, xi_X1, by decide +kernel, by decide +kernel, by decide⟩
theorem vX1_firstSlotBeyond : xVir mX1_firstSlotBeyond := ⟨xg_r (i := 201) (by decide +kernel) rfl, xg_l (i := 2) (by decide +kernel) rfl⟩
def mX1_placeBetween : xMI := (yX1_placeBetween, cX1_placeBetween, 3, (some .int), 0)
theorem fX1_placeBetween : xCal mX1_placeBetween 2 := ⟨xg_r (i := 206) (by decide +kernel) rfl, xi_X1, by decide +kernel, by decide +kernel, by decide⟩
theorem vX1_placeBetween : xVir mX1_placeBetween := ⟨xg_r (i := 205) (by decide +kernel) rfl, xg_l (i := 3) (by decide +kernel) rfl⟩
def mX1_movesUpFrom : xMI := (yX1_movesUpFrom, cX1_movesUpFrom, 3, (some .int), 1)
theorem fX1_movesUpFrom : xCal mX1_movesUpFrom 1 := ⟨xg_r (i := 210) (by decide +kernel) rfl, xi_X1, by decide +kernel, by decide +kernel, by decide⟩
theorem vX1_movesUpFrom : xVir mX1_movesUpFrom := ⟨xg_r (i := 209) (by decide +kernel) rfl, xg_l (i := 4) (by decide +kernel) rfl⟩
def mX1_movesDownFrom : xMI := (yX1_movesDownFrom, cX1_movesDownFrom, 3, (some .int), 1)
theorem fX1_movesDownFrom : xCal mX1_movesDownFrom 1 := ⟨xg_r (i := 214) (by decide +kernel) rfl, xi_X1, by decide +kernel, by decide +kernel, by decide⟩
theorem vX1_movesDownFrom : xVir mX1_movesDownFrom := ⟨xg_r (i := 213) (by decide +kernel) rfl, xg_l (i := 5) (by decide +kernel) rfl⟩
def mX1_moveUp : xMI := (yX1_moveUp, cX1_moveUp, 4, none, 2)
theorem fX1_moveUp : xCal mX1_moveUp 2 := ⟨xg_r (i := 218) (by decide +kernel) rfl, xi_X1, by decide +kernel, by decide +kernel, by decide⟩
theorem vX1_moveUp : xVir mX1_moveUp := ⟨xg_r (i := 217) (by decide +kernel) rfl, xg_l (i := 6) (by decide +kernel) rfl⟩
def mX1_moveEntry : xMI := (yX1_moveEntry, cX1_moveEntry, 3, none, 1)
theorem fX1_moveEntry : xCal mX1_moveEntry 2 := ⟨xg_r (i := 222) (by decide +kernel) rfl, xi_X1, by decide +kernel, by decide +kernel, by decide⟩
theorem vX1_moveEntry : xVir mX1_moveEntry := ⟨xg_r (i := 221) (by decide +kernel) rfl, xg_l (i := 7) (by decide +kernel) rfl⟩
def mX3_isSlot : xMI := (yX3_isSlot, cX3_isSlot, 1, (some .boolean), 0)
theorem fX3_isSlot : xCal mX3_isSlot 1 := ⟨xg_r (i := 225) (by decide +kernel) rfl, xi_X3, by decide +kernel, by decide +kernel, by decide⟩
theorem sX3_isSlot : xSta mX3_isSlot := xg_r (i := 224) (by decide +kernel) rfl
def mX1_moveDown : xMI := (yX1_moveDown, cX1_moveDown, 4, none, 2)
theorem fX1_moveDown : xCal mX1_moveDown 2 := ⟨xg_r (i := 229) (by decide +kernel) rfl, xi_X1, by decide +kernel, by decide +kernel, by decide⟩
theorem vX1_moveDown : xVir mX1_moveDown := ⟨xg_r (i := 228) (by decide +kernel) rfl, xg_l (i := 8) (by decide +kernel) rfl⟩
def mX1_fill : xMI := (yX1_fill, cX1_fill, 8, none, 1)
theorem fX1_fill : xCal mX1_fill 7 := ⟨xg_r (i := 233) (by decide +kernel) rfl, xi_X1, by decide +kernel, by decide +kernel, by decide⟩
theorem vX1_fill : xVir mX1_fill := ⟨xg_r (i := 232) (by decide +kernel) rfl, xg_l (i := 9) (by decide +kernel) rfl⟩
def mX3_addRange : xMI := (yX3_addRange, cX3_addRange, 5, (some .int), 5)
theorem fX3_addRange : xCal mX3_addRange 4 := ⟨xg_r (i := 237) (by decide +kernel) rfl, xi_X3, by decide +kernel, by decide +kernel, by decide⟩
theorem vX3_addRange : xVir mX3_addRange := ⟨xg_r (i := 235) (by decide +kernel) rfl, xg_r (i := 236) (by decide +kernel) rfl⟩
def mX3_isRange : xMI := (yX3_isRange, cX3_isRange, 2, (some .boolean), 1)
theorem fX3_isRange : xCal mX3_isRange 2 := ⟨xg_r (i := 240) (by decide +kernel) rfl, xi_X3, by decide +kernel, by decide +kernel, by decide⟩
theorem sX3_isRange : xSta mX3_isRange := xg_r (i := 239) (by decide +kernel) rfl
def mX3_blocksOf : xMI := (yX3_blocksOf, cX3_blocksOf, 4, (some .int), 1)
theorem fX3_blocksOf : xCal mX3_blocksOf 2 := ⟨xg_r (i := 243) (by decide +kernel) rfl, xi_X3, by decide +kernel, by decide +kernel, by decide⟩
theorem sX3_blocksOf : xSta mX3_blocksOf := xg_r (i := 242) (by decide +kernel) rfl
def mX3_blockSize : xMI := (yX3_blockSize, cX3_blockSize, 4, (some .int), 0)
theorem fX3_blockSize : xCal mX3_blockSize 2 := ⟨xg_r (i := 246) (by decide +kernel) rfl, xi_X3, by decide +kernel, by decide +kernel, by decide⟩
theorem sX3_blockSize : xSta mX3_blockSize := xg_r (i := 245) (by decide +kernel) rfl
def mX1_addBlocks : xMI := (yX1_addBlocks, cX1_addBlocks, 9, (some .int), 4)
theorem fX1_addBlocks : xCal mX1_addBlocks 4 := ⟨xg_r (i := 250) (by decide +kernel) rfl, xi_X1, by decide +kernel, by decide +kernel, by decide⟩
theorem vX1_addBlocks : xVir mX1_addBlocks := ⟨xg_r (i := 248) (by decide +kernel) rfl, xg_r (i := 249) (by decide +kernel) rfl⟩
def mX3_remove : xMI := (yX3_remove, cX3_remove, 3, (some .int), 3)
theorem fX3_remove : xCal mX3_remove 1 := ⟨xg_r (i := 255) (by decide +kernel) rfl, xi_X3, by decide +kernel, by decide +kernel, by decide⟩
theorem vX3_remove : xVir mX3_remove := ⟨xg_r (i := 253) (by decide +kernel) rfl, xg_r (i := 254) (by decide +kernel) rfl⟩
def mX1_entriesOf : xMI := (yX1_entriesOf, cX1_entriesOf, 4, (some .int), 1)
theorem fX1_entriesOf : xCal mX1_entriesOf 1 := ⟨xg_r (i := 259) (by decide +kernel) rfl, xi_X1, by decide +kernel, by decide +kernel, by decide⟩
theorem vX1_entriesOf : xVir mX1_entriesOf := ⟨xg_r (i := 257) (by decide +kernel) rfl, xg_r (i := 258) (by decide +kernel) rfl⟩
def mX1_dropEntriesOf : xMI := (yX1_dropEntriesOf, cX1_dropEntriesOf, 3, none, 0)
theorem fX1_dropEntriesOf : xCal mX1_dropEntriesOf 1 := ⟨xg_r (i := 263) (by decide +kernel) rfl, xi_X1, by decide +kernel, by decide +kernel, by decide⟩
theorem vX1_dropEntriesOf : xVir mX1_dropEntriesOf := ⟨xg_r (i := 261) (by decide +kernel) rfl, xg_r (i := 262) (by decide +kernel) rfl⟩
def mX3_setPlacing : xMI := (yX3_setPlacing, cX3_setPlacing, 3, (some .int), 3)
theorem fX3_setPlacing : xCal mX3_setPlacing 1 := ⟨xg_r (i := 267) (by decide +kernel) rfl, xi_X3, by decide +kernel, by decide +kernel, by decide⟩
theorem vX3_setPlacing : xVir mX3_setPlacing := ⟨xg_r (i := 265) (by decide +kernel) rfl, xg_r (i := 266) (by decide +kernel) rfl⟩
def mX3_compact : xMI := (yX3_compact, cX3_compact, 1, (some .int), 5)
theorem fX3_compact : xCal mX3_compact 0 := ⟨xg_r (i := 271) (by decide +kernel) rfl, xi_X3, by decide +kernel, by decide +kernel, by decide⟩
theorem vX3_compact : xVir mX3_compact := ⟨xg_r (i := 269) (by decide +kernel) rfl, xg_r (i := 270) (by decide +kernel) rfl⟩
def mX3_rearrange : xMI := (yX3_rearrange, cX3_rearrange, 3, (some .int), 4)
theorem fX3_rearrange : xCal mX3_rearrange 1 := ⟨xg_r (i := 275) (by decide +kernel) rfl, xi_X3, by decide +kernel, by decide +kernel, by decide⟩
theorem vX3_rearrange : xVir mX3_rearrange := ⟨xg_r (i := 274) (by decide +kernel) rfl, xg_l (i := 10) (by decide +kernel) rfl⟩
def mX1_entriesOutOfShare : xMI := (yX1_entriesOutOfShare, cX1_entriesOutOfShare, 5, (some .int), 1)
theorem fX1_entriesOutOfShare : xCal mX1_entriesOutOfShare 1 := ⟨xg_r (i := 279) (by decide +kernel) rfl, xi_X1, by decide +kernel, by decide +kernel, by decide⟩
theorem vX1_entriesOutOfShare : xVir mX1_entriesOutOfShare := ⟨xg_r (i := 277) (by decide +kernel) rfl, xg_r (i := 278) (by decide +kernel) rfl⟩
def mX1_firstSlotOfShare : xMI := (yX1_firstSlotOfShare, cX1_firstSlotOfShare, 2, (some .int), 0)
theorem fX1_firstSlotOfShare : xCal mX1_firstSlotOfShare 2 := ⟨xg_r (i := 282) (by decide +kernel) rfl, xi_X1, by decide +kernel, by decide +kernel, by decide⟩
theorem sX1_firstSlotOfShare : xSta mX1_firstSlotOfShare := xg_r (i := 281) (by decide +kernel) rfl
def mX1_moveIntoShares : xMI := (yX1_moveIntoShares, cX1_moveIntoShares, 4, none, 3)
theorem fX1_moveIntoShares : xCal mX1_moveIntoShares 1 := ⟨xg_r (i := 286) (by decide +kernel) rfl, xi_X1, by decide +kernel, by decide +kernel, by decide⟩
theorem vX1_moveIntoShares : xVir mX1_moveIntoShares := ⟨xg_r (i := 284) (by decide +kernel) rfl, xg_r (i := 285) (by decide +kernel) rfl⟩
def mX1_moveToFront : xMI := (yX1_moveToFront, cX1_moveToFront, 3, (some .int), 2)
theorem fX1_moveToFront : xCal mX1_moveToFront 0 := ⟨xg_r (i := 290) (by decide +kernel) rfl, xi_X1, by decide +kernel, by decide +kernel, by decide⟩
theorem vX1_moveToFront : xVir mX1_moveToFront := ⟨xg_r (i := 289) (by decide +kernel) rfl, xg_l (i := 11) (by decide +kernel) rfl⟩
def mX3_spread : xMI := (yX3_spread, cX3_spread, 1, (some .int), 5)
theorem fX3_spread : xCal mX3_spread 0 := ⟨xg_r (i := 294) (by decide +kernel) rfl, xi_X3, by decide +kernel, by decide +kernel, by decide⟩
theorem vX3_spread : xVir mX3_spread := ⟨xg_r (i := 292) (by decide +kernel) rfl, xg_r (i := 293) (by decide +kernel) rfl⟩
def mX3_search : xMI := (yX3_search, cX3_search, 3, (some .int), 6)
theorem fX3_search : xCal mX3_search 1 := ⟨xg_r (i := 299) (by decide +kernel) rfl, xi_X3, by decide +kernel, by decide +kernel, by decide⟩
theorem vX3_search : xVir mX3_search := ⟨xg_r (i := 297) (by decide +kernel) rfl, xg_r (i := 298) (by decide +kernel) rfl⟩
def mX1_slotFoundBy : xMI := (yX1_slotFoundBy, cX1_slotFoundBy, 3, (some .int), 1)
theorem fX1_slotFoundBy : xCal mX1_slotFoundBy 1 := ⟨xg_r (i := 303) (by decide +kernel) rfl, xi_X1, by decide +kernel, by decide +kernel, by decide⟩
theorem vX1_slotFoundBy : xVir mX1_slotFoundBy := ⟨xg_r (i := 301) (by decide +kernel) rfl, xg_r (i := 302) (by decide +kernel) rfl⟩
def mX1_countSearch : xMI := (yX1_countSearch, cX1_countSearch, 5, none, 5)
theorem fX1_countSearch : xCal mX1_countSearch 2 := ⟨xg_r (i := 307) (by decide +kernel) rfl, xi_X1, by decide +kernel, by decide +kernel, by decide⟩
theorem vX1_countSearch : xVir mX1_countSearch := ⟨xg_r (i := 305) (by decide +kernel) rfl, xg_r (i := 306) (by decide +kernel) rfl⟩
def mX1_powerFor : xMI := (yX1_powerFor, cX1_powerFor, 4, (some .int), 4)
theorem fX1_powerFor : xCal mX1_powerFor 1 := ⟨xg_r (i := 311) (by decide +kernel) rfl, xi_X1, by decide +kernel, by decide +kernel, by decide⟩
theorem vX1_powerFor : xVir mX1_powerFor := ⟨xg_r (i := 309) (by decide +kernel) rfl, xg_r (i := 310) (by decide +kernel) rfl⟩
def mX1_commonMask : xMI := (yX1_commonMask, cX1_commonMask, 6, (some .int), 2)
theorem fX1_commonMask : xCal mX1_commonMask 1 := ⟨xg_r (i := 315) (by decide +kernel) rfl, xi_X1, by decide +kernel, by decide +kernel, by decide⟩
theorem vX1_commonMask : xVir mX1_commonMask := ⟨xg_r (i := 313) (by decide +kernel) rfl, xg_r (i := 314) (by decide +kernel) rfl⟩
def mX1_firstEntryOfBank : xMI := (yX1_firstEntryOfBank, cX1_firstEntryOfBank, 3, (some .int), 1)
theorem fX1_firstEntryOfBank : xCal mX1_firstEntryOfBank 1 := ⟨xg_r (i := 319) (by decide +kernel) rfl, xi_X1, by decide +kernel, by decide +kernel, by decide⟩
theorem vX1_firstEntryOfBank : xVir mX1_firstEntryOfBank := ⟨xg_r (i := 318) (by decide +kernel) rfl, xg_l (i := 12) (by decide +kernel) rfl⟩
def mX1_commonValue : xMI := (yX1_commonValue, cX1_commonValue, 3, (some .int), 3)
theorem fX1_commonValue : xCal mX1_commonValue 1 := ⟨xg_r (i := 323) (by decide +kernel) rfl, xi_X1, by decide +kernel, by decide +kernel, by decide⟩
theorem vX1_commonValue : xVir mX1_commonValue := ⟨xg_r (i := 321) (by decide +kernel) rfl, xg_r (i := 322) (by decide +kernel) rfl⟩
def mX1_told : xMI := (yX1_told, cX1_told, 3, (some .int), 1)
theorem fX1_told : xCal mX1_told 2 := ⟨xg_r (i := 327) (by decide +kernel) rfl, xi_X1, by decide +kernel, by decide +kernel, by decide⟩
theorem vX1_told : xVir mX1_told := ⟨xg_r (i := 325) (by decide +kernel) rfl, xg_r (i := 326) (by decide +kernel) rfl⟩
def mX3_type : xMI := (yX3_type, cX3_type, 2, (some .int), 1)
theorem fX3_type : xCal mX3_type 1 := ⟨xg_r (i := 331) (by decide +kernel) rfl, xi_X3, by decide +kernel, by decide +kernel, by decide⟩
theorem vX3_type : xVir mX3_type := ⟨xg_r (i := 329) (by decide +kernel) rfl, xg_r (i := 330) (by decide +kernel) rfl⟩
def mX2_append : xMI := (yX2_append, cX2_append, 2, (some .boolean), 0)
theorem fX2_append : xCal mX2_append 1 := ⟨xg_r (i := 335) (by decide +kernel) rfl, xi_X2, by decide +kernel, by decide +kernel, by decide⟩
theorem vX2_append : xVir mX2_append := ⟨xg_r (i := 333) (by decide +kernel) rfl, xg_r (i := 334) (by decide +kernel) rfl⟩
def mX3_clearText : xMI := (yX3_clearText, cX3_clearText, 2, (some .int), 0)
theorem fX3_clearText : xCal mX3_clearText 0 := ⟨xg_r (i := 339) (by decide +kernel) rfl, xi_X3, by decide +kernel, by decide +kernel, by decide⟩
theorem vX3_clearText : xVir mX3_clearText := ⟨xg_r (i := 337) (by decide +kernel) rfl, xg_r (i := 338) (by decide +kernel) rfl⟩
def mX3_addText : xMI := (yX3_addText, cX3_addText, 4, (some .int), 5)
theorem fX3_addText : xCal mX3_addText 0 := ⟨xg_r (i := 343) (by decide +kernel) rfl, xi_X3, by decide +kernel, by decide +kernel, by decide⟩
theorem vX3_addText : xVir mX3_addText := ⟨xg_r (i := 341) (by decide +kernel) rfl, xg_r (i := 342) (by decide +kernel) rfl⟩
def mX2_readRules : xMI := (yX2_readRules, cX2_readRules, 2, (some .int), 3)
theorem fX2_readRules : xCal mX2_readRules 0 := ⟨xg_r (i := 347) (by decide +kernel) rfl, xi_X2, by decide +kernel, by decide +kernel, by decide⟩
theorem vX2_readRules : xVir mX2_readRules := ⟨xg_r (i := 345) (by decide +kernel) rfl, xg_r (i := 346) (by decide +kernel) rfl⟩
def mX2_readEntry : xMI := (yX2_readEntry, cX2_readEntry, 6, (some .boolean), 1)
theorem fX2_readEntry : xCal mX2_readEntry 1 := ⟨xg_r (i := 351) (by decide +kernel) rfl, xi_X2, by decide +kernel, by decide +kernel, by decide⟩
theorem vX2_readEntry : xVir mX2_readEntry := ⟨xg_r (i := 350) (by decide +kernel) rfl, xg_l (i := 13) (by decide +kernel) rfl⟩
def mX2_sign : xMI := (yX2_sign, cX2_sign, 1, (some .int), 0)
theorem fX2_sign : xCal mX2_sign 0 := ⟨xg_r (i := 355) (by decide +kernel) rfl, xi_X2, by decide +kernel, by decide +kernel, by decide⟩
theorem vX2_sign : xVir mX2_sign := ⟨xg_r (i := 354) (by decide +kernel) rfl, xg_l (i := 14) (by decide +kernel) rfl⟩
def mX2_skip : xMI := (yX2_skip, cX2_skip, 2, (some .boolean), 1)
theorem fX2_skip : xCal mX2_skip 1 := ⟨xg_r (i := 359) (by decide +kernel) rfl, xi_X2, by decide +kernel, by decide +kernel, by decide⟩
theorem vX2_skip : xVir mX2_skip := ⟨xg_r (i := 358) (by decide +kernel) rfl, xg_l (i := 15) (by decide +kernel) rfl⟩
def mX2_readRank : xMI := (yX2_readRank, cX2_readRank, 4, (some .boolean), 2)
theorem fX2_readRank : xCal mX2_readRank 1 := ⟨xg_r (i := 363) (by decide +kernel) rfl, xi_X2, by decide +kernel, by decide +kernel, by decide⟩
theorem vX2_readRank : xVir mX2_readRank := ⟨xg_r (i := 362) (by decide +kernel) rfl, xg_l (i := 16) (by decide +kernel) rfl⟩
def mX2_digit : xMI := (yX2_digit, cX2_digit, 2, (some .int), 1)
theorem fX2_digit : xCal mX2_digit 0 := ⟨xg_r (i := 367) (by decide +kernel) rfl, xi_X2, by decide +kernel, by decide +kernel, by decide⟩
theorem vX2_digit : xVir mX2_digit := ⟨xg_r (i := 366) (by decide +kernel) rfl, xg_l (i := 17) (by decide +kernel) rfl⟩
def mX2_readAction : xMI := (yX2_readAction, cX2_readAction, 3, (some .boolean), 2)
theorem fX2_readAction : xCal mX2_readAction 1 := ⟨xg_r (i := 371) (by decide +kernel) rfl, xi_X2, by decide +kernel, by decide +kernel, by decide⟩
theorem vX2_readAction : xVir mX2_readAction := ⟨xg_r (i := 370) (by decide +kernel) rfl, xg_l (i := 18) (by decide +kernel) rfl⟩
def mX3_undo : xMI := (yX3_undo, cX3_undo, 1, (some .int), 3)
theorem fX3_undo : xCal mX3_undo 0 := ⟨xg_r (i := 375) (by decide +kernel) rfl, xi_X3, by decide +kernel, by decide +kernel, by decide⟩
theorem vX3_undo : xVir mX3_undo := ⟨xg_r (i := 373) (by decide +kernel) rfl, xg_r (i := 374) (by decide +kernel) rfl⟩
def mX0_takeLatestInto : xMI := (yX0_takeLatestInto, cX0_takeLatestInto, 2, none, 2)
theorem fX0_takeLatestInto : xCal mX0_takeLatestInto 1 := ⟨xg_r (i := 379) (by decide +kernel) rfl, xi_X0, by decide +kernel, by decide +kernel, by decide⟩
theorem vX0_takeLatestInto : xVir mX0_takeLatestInto := ⟨xg_r (i := 377) (by decide +kernel) rfl, xg_r (i := 378) (by decide +kernel) rfl⟩
def mX3_keep : xMI := (yX3_keep, cX3_keep, 1, (some .int), 3)
theorem fX3_keep : xCal mX3_keep 0 := ⟨xg_r (i := 383) (by decide +kernel) rfl, xi_X3, by decide +kernel, by decide +kernel, by decide⟩
theorem vX3_keep : xVir mX3_keep := ⟨xg_r (i := 381) (by decide +kernel) rfl, xg_r (i := 382) (by decide +kernel) rfl⟩
def mX3_restore : xMI := (yX3_restore, cX3_restore, 1, (some .int), 3)
theorem fX3_restore : xCal mX3_restore 0 := ⟨xg_r (i := 388) (by decide +kernel) rfl, xi_X3, by decide +kernel, by decide +kernel, by decide⟩
theorem vX3_restore : xVir mX3_restore := ⟨xg_r (i := 386) (by decide +kernel) rfl, xg_r (i := 387) (by decide +kernel) rfl⟩
def mX3_ruleIn : xMI := (yX3_ruleIn, cX3_ruleIn, 2, (some .int), 2)
theorem fX3_ruleIn : xCal mX3_ruleIn 1 := ⟨xg_r (i := 392) (by decide +kernel) rfl, xi_X3, by decide +kernel, by decide +kernel, by decide⟩
theorem vX3_ruleIn : xVir mX3_ruleIn := ⟨xg_r (i := 390) (by decide +kernel) rfl, xg_r (i := 391) (by decide +kernel) rfl⟩
def mX3_maskIn : xMI := (yX3_maskIn, cX3_maskIn, 2, (some .int), 2)
theorem fX3_maskIn : xCal mX3_maskIn 1 := ⟨xg_r (i := 396) (by decide +kernel) rfl, xi_X3, by decide +kernel, by decide +kernel, by decide⟩
theorem vX3_maskIn : xVir mX3_maskIn := ⟨xg_r (i := 394) (by decide +kernel) rfl, xg_r (i := 395) (by decide +kernel) rfl⟩
def mX3_valueIn : xMI := (yX3_valueIn, cX3_valueIn, 2, (some .int), 2)
theorem fX3_valueIn : xCal mX3_valueIn 1 := ⟨xg_r (i := 400) (by decide +kernel) rfl, xi_X3, by decide +kernel, by decide +kernel, by decide⟩
theorem vX3_valueIn : xVir mX3_valueIn := ⟨xg_r (i := 398) (by decide +kernel) rfl, xg_r (i := 399) (by decide +kernel) rfl⟩
def mX3_sortIn : xMI := (yX3_sortIn, cX3_sortIn, 3, (some .int), 2)
theorem fX3_sortIn : xCal mX3_sortIn 1 := ⟨xg_r (i := 404) (by decide +kernel) rfl, xi_X3, by decide +kernel, by decide +kernel, by decide⟩
theorem vX3_sortIn : xVir mX3_sortIn := ⟨xg_r (i := 402) (by decide +kernel) rfl, xg_r (i := 403) (by decide +kernel) rfl⟩
def mX3_sortOfMask : xMI := (yX3_sortOfMask, cX3_sortOfMask, 2, (some .int), 0)
theorem fX3_sortOfMask : xCal mX3_sortOfMask 1 := ⟨xg_r (i := 407) (by decide +kernel) rfl, xi_X3, by decide +kernel, by decide +kernel, by decide⟩
theorem sX3_sortOfMask : xSta mX3_sortOfMask := xg_r (i := 406) (by decide +kernel) rfl
def mX3_slotOf : xMI := (yX3_slotOf, cX3_slotOf, 4, (some .int), 2)
theorem fX3_slotOf : xCal mX3_slotOf 2 := ⟨xg_r (i := 411) (by decide +kernel) rfl, xi_X3, by decide +kernel, by decide +kernel, by decide⟩
theorem vX3_slotOf : xVir mX3_slotOf := ⟨xg_r (i := 409) (by decide +kernel) rfl, xg_r (i := 410) (by decide +kernel) rfl⟩
def mX1_slotHolding : xMI := (yX1_slotHolding, cX1_slotHolding, 4, (some .int), 1)
theorem fX1_slotHolding : xCal mX1_slotHolding 2 := ⟨xg_r (i := 415) (by decide +kernel) rfl, xi_X1, by decide +kernel, by decide +kernel, by decide⟩
theorem vX1_slotHolding : xVir mX1_slotHolding := ⟨xg_r (i := 413) (by decide +kernel) rfl, xg_r (i := 414) (by decide +kernel) rfl⟩
def mX3_parts : xMI := (yX3_parts, cX3_parts, 3, (some .int), 2)
theorem fX3_parts : xCal mX3_parts 1 := ⟨xg_r (i := 419) (by decide +kernel) rfl, xi_X3, by decide +kernel, by decide +kernel, by decide⟩
theorem vX3_parts : xVir mX3_parts := ⟨xg_r (i := 417) (by decide +kernel) rfl, xg_r (i := 418) (by decide +kernel) rfl⟩
def mX3_rank : xMI := (yX3_rank, cX3_rank, 2, (some .int), 2)
theorem fX3_rank : xCal mX3_rank 1 := ⟨xg_r (i := 423) (by decide +kernel) rfl, xi_X3, by decide +kernel, by decide +kernel, by decide⟩
theorem vX3_rank : xVir mX3_rank := ⟨xg_r (i := 421) (by decide +kernel) rfl, xg_r (i := 422) (by decide +kernel) rfl⟩
def mX3_action : xMI := (yX3_action, cX3_action, 2, (some .int), 2)
theorem fX3_action : xCal mX3_action 1 := ⟨xg_r (i := 427) (by decide +kernel) rfl, xi_X3, by decide +kernel, by decide +kernel, by decide⟩
theorem vX3_action : xVir mX3_action := ⟨xg_r (i := 425) (by decide +kernel) rfl, xg_r (i := 426) (by decide +kernel) rfl⟩
def mX3_hits : xMI := (yX3_hits, cX3_hits, 2, (some .int), 2)
theorem fX3_hits : xCal mX3_hits 1 := ⟨xg_r (i := 431) (by decide +kernel) rfl, xi_X3, by decide +kernel, by decide +kernel, by decide⟩
theorem vX3_hits : xVir mX3_hits := ⟨xg_r (i := 429) (by decide +kernel) rfl, xg_r (i := 430) (by decide +kernel) rfl⟩
def mX3_find : xMI := (yX3_find, cX3_find, 3, (some .int), 2)
theorem fX3_find : xCal mX3_find 1 := ⟨xg_r (i := 435) (by decide +kernel) rfl, xi_X3, by decide +kernel, by decide +kernel, by decide⟩
theorem vX3_find : xVir mX3_find := ⟨xg_r (i := 433) (by decide +kernel) rfl, xg_r (i := 434) (by decide +kernel) rfl⟩
def mX3_power : xMI := (yX3_power, cX3_power, 2, (some .int), 5)
theorem fX3_power : xCal mX3_power 1 := ⟨xg_r (i := 439) (by decide +kernel) rfl, xi_X3, by decide +kernel, by decide +kernel, by decide⟩
theorem vX3_power : xVir mX3_power := ⟨xg_r (i := 437) (by decide +kernel) rfl, xg_r (i := 438) (by decide +kernel) rfl⟩
def mX3_filterMask : xMI := (yX3_filterMask, cX3_filterMask, 2, (some .int), 3)
theorem fX3_filterMask : xCal mX3_filterMask 1 := ⟨xg_r (i := 444) (by decide +kernel) rfl, xi_X3, by decide +kernel, by decide +kernel, by decide⟩
theorem vX3_filterMask : xVir mX3_filterMask := ⟨xg_r (i := 442) (by decide +kernel) rfl, xg_r (i := 443) (by decide +kernel) rfl⟩
def mX3_isBank : xMI := (yX3_isBank, cX3_isBank, 1, (some .boolean), 0)
theorem fX3_isBank : xCal mX3_isBank 1 := ⟨xg_r (i := 447) (by decide +kernel) rfl, xi_X3, by decide +kernel, by decide +kernel, by decide⟩
theorem sX3_isBank : xSta mX3_isBank := xg_r (i := 446) (by decide +kernel) rfl
def mX3_filterValue : xMI := (yX3_filterValue, cX3_filterValue, 2, (some .int), 4)
theorem fX3_filterValue : xCal mX3_filterValue 1 := ⟨xg_r (i := 452) (by decide +kernel) rfl, xi_X3, by decide +kernel, by decide +kernel, by decide⟩
theorem vX3_filterValue : xVir mX3_filterValue := ⟨xg_r (i := 450) (by decide +kernel) rfl, xg_r (i := 451) (by decide +kernel) rfl⟩
def mX3_hiddenBy : xMI := (yX3_hiddenBy, cX3_hiddenBy, 3, (some .int), 2)
theorem fX3_hiddenBy : xCal mX3_hiddenBy 1 := ⟨xg_r (i := 457) (by decide +kernel) rfl, xi_X3, by decide +kernel, by decide +kernel, by decide⟩
theorem vX3_hiddenBy : xVir mX3_hiddenBy := ⟨xg_r (i := 455) (by decide +kernel) rfl, xg_r (i := 456) (by decide +kernel) rfl⟩
def mX1_slotHiding : xMI := (yX1_slotHiding, cX1_slotHiding, 5, (some .int), 1)
theorem fX1_slotHiding : xCal mX1_slotHiding 1 := ⟨xg_r (i := 462) (by decide +kernel) rfl, xi_X1, by decide +kernel, by decide +kernel, by decide⟩
theorem vX1_slotHiding : xVir mX1_slotHiding := ⟨xg_r (i := 460) (by decide +kernel) rfl, xg_r (i := 461) (by decide +kernel) rfl⟩
def mX3_keysFor : xMI := (yX3_keysFor, cX3_keysFor, 2, (some .int), 3)
theorem fX3_keysFor : xCal mX3_keysFor 1 := ⟨xg_r (i := 466) (by decide +kernel) rfl, xi_X3, by decide +kernel, by decide +kernel, by decide⟩
theorem vX3_keysFor : xVir mX3_keysFor := ⟨xg_r (i := 464) (by decide +kernel) rfl, xg_r (i := 465) (by decide +kernel) rfl⟩
def mX1_keysFinding : xMI := (yX1_keysFinding, cX1_keysFinding, 4, (some .int), 2)
theorem fX1_keysFinding : xCal mX1_keysFinding 1 := ⟨xg_r (i := 470) (by decide +kernel) rfl, xi_X1, by decide +kernel, by decide +kernel, by decide⟩
theorem vX1_keysFinding : xVir mX1_keysFinding := ⟨xg_r (i := 468) (by decide +kernel) rfl, xg_r (i := 469) (by decide +kernel) rfl⟩
def mX3_wouldMove : xMI := (yX3_wouldMove, cX3_wouldMove, 2, (some .int), 4)
theorem fX3_wouldMove : xCal mX3_wouldMove 1 := ⟨xg_r (i := 475) (by decide +kernel) rfl, xi_X3, by decide +kernel, by decide +kernel, by decide⟩
theorem vX3_wouldMove : xVir mX3_wouldMove := ⟨xg_r (i := 473) (by decide +kernel) rfl, xg_r (i := 474) (by decide +kernel) rfl⟩
def mX1_movesFor : xMI := (yX1_movesFor, cX1_movesFor, 4, (some .int), 2)
theorem fX1_movesFor : xCal mX1_movesFor 1 := ⟨xg_r (i := 479) (by decide +kernel) rfl, xi_X1, by decide +kernel, by decide +kernel, by decide⟩
theorem vX1_movesFor : xVir mX1_movesFor := ⟨xg_r (i := 477) (by decide +kernel) rfl, xg_r (i := 478) (by decide +kernel) rfl⟩
def mJ9_min_7cf53 : xMI := (yJ9_min_7cf53, cJ9_min_7cf53, 2, (some .int), 0)
theorem fJ9_min_7cf53 : xCal mJ9_min_7cf53 2 := ⟨xg_r (i := 482) (by decide +kernel) rfl, xi_J9, by decide +kernel, by decide +kernel, by decide⟩
theorem sJ9_min_7cf53 : xSta mJ9_min_7cf53 := xg_r (i := 481) (by decide +kernel) rfl
def mX3_entriesFor : xMI := (yX3_entriesFor, cX3_entriesFor, 3, (some .int), 2)
theorem fX3_entriesFor : xCal mX3_entriesFor 2 := ⟨xg_r (i := 486) (by decide +kernel) rfl, xi_X3, by decide +kernel, by decide +kernel, by decide⟩
theorem vX3_entriesFor : xVir mX3_entriesFor := ⟨xg_r (i := 484) (by decide +kernel) rfl, xg_r (i := 485) (by decide +kernel) rfl⟩
def mX3_total : xMI := (yX3_total, cX3_total, 2, (some .int), 4)
theorem fX3_total : xCal mX3_total 1 := ⟨xg_r (i := 490) (by decide +kernel) rfl, xi_X3, by decide +kernel, by decide +kernel, by decide⟩
theorem vX3_total : xVir mX3_total := ⟨xg_r (i := 488) (by decide +kernel) rfl, xg_r (i := 489) (by decide +kernel) rfl⟩
def mX1_rules : xMI := (yX1_rules, cX1_rules, 3, (some .int), 1)
theorem fX1_rules : xCal mX1_rules 0 := ⟨xg_r (i := 494) (by decide +kernel) rfl, xi_X1, by decide +kernel, by decide +kernel, by decide⟩
theorem vX1_rules : xVir mX1_rules := ⟨xg_r (i := 492) (by decide +kernel) rfl, xg_r (i := 493) (by decide +kernel) rfl⟩
def mX1_entriesNeverFound : xMI := (yX1_entriesNeverFound, cX1_entriesNeverFound, 4, (some .int), 3)
theorem fX1_entriesNeverFound : xCal mX1_entriesNeverFound 0 := ⟨xg_r (i := 498) (by decide +kernel) rfl, xi_X1, by decide +kernel, by decide +kernel, by decide⟩
theorem vX1_entriesNeverFound : xVir mX1_entriesNeverFound := ⟨xg_r (i := 496) (by decide +kernel) rfl, xg_r (i := 497) (by decide +kernel) rfl⟩
def mJ6_bitCount_0f7a4 : xMI := (yJ6_bitCount_0f7a4, cJ6_bitCount_0f7a4, 1, (some .int), 0)
theorem fJ6_bitCount_0f7a4 : xCal mJ6_bitCount_0f7a4 1 := ⟨xg_r (i := 501) (by decide +kernel) rfl, xi_J6, by decide +kernel, by decide +kernel, by decide⟩
theorem sJ6_bitCount_0f7a4 : xSta mJ6_bitCount_0f7a4 := xg_r (i := 500) (by decide +kernel) rfl
def mX4_init : xMI := (yX4_init, cX4_init, 1, none, 0)
theorem fX4_init : xCal mX4_init 0 := ⟨xg_r (i := 509) (by decide +kernel) rfl, xi_X4, by decide +kernel, by decide +kernel, by decide⟩
theorem viX4_init : Cond.instanceMethod yX4_init ∈ gw := xg_r (i := 508) (by decide +kernel) rfl
def mX4_undo : xMI := (yX4_undo, cX4_undo, 1, (some .int), 1)
theorem fX4_undo : xCal mX4_undo 0 := ⟨xg_r (i := 548) (by decide +kernel) rfl, xi_X4, by decide +kernel, by decide +kernel, by decide⟩
theorem vX4_undo : xVir mX4_undo := ⟨xg_r (i := 546) (by decide +kernel) rfl, xg_r (i := 547) (by decide +kernel) rfl⟩
def mX4_copyState : xMI := (yX4_copyState, cX4_copyState, 5, none, 0)
theorem fX4_copyState : xCal mX4_copyState 4 := ⟨xg_r (i := 551) (by decide +kernel) rfl, xi_X4, by decide +kernel, by decide +kernel, by decide⟩
theorem sX4_copyState : xSta mX4_copyState := xg_r (i := 550) (by decide +kernel) rfl
def mX4_keep : xMI := (yX4_keep, cX4_keep, 1, (some .int), 2)
theorem fX4_keep : xCal mX4_keep 0 := ⟨xg_r (i := 555) (by decide +kernel) rfl, xi_X4, by decide +kernel, by decide +kernel, by decide⟩
theorem vX4_keep : xVir mX4_keep := ⟨xg_r (i := 553) (by decide +kernel) rfl, xg_r (i := 554) (by decide +kernel) rfl⟩
def mX4_entries : xMI := (yX4_entries, cX4_entries, 3, (some .int), 1)
theorem fX4_entries : xCal mX4_entries 0 := ⟨xg_r (i := 559) (by decide +kernel) rfl, xi_X4, by decide +kernel, by decide +kernel, by decide⟩
theorem vX4_entries : xVir mX4_entries := ⟨xg_r (i := 558) (by decide +kernel) rfl, xg_l (i := 19) (by decide +kernel) rfl⟩
def mX4_isFree : xMI := (yX4_isFree, cX4_isFree, 2, (some .boolean), 0)
theorem fX4_isFree : xCal mX4_isFree 1 := ⟨xg_r (i := 563) (by decide +kernel) rfl, xi_X4, by decide +kernel, by decide +kernel, by decide⟩
theorem vX4_isFree : xVir mX4_isFree := ⟨xg_r (i := 562) (by decide +kernel) rfl, xg_l (i := 20) (by decide +kernel) rfl⟩
def mX4_restore : xMI := (yX4_restore, cX4_restore, 1, (some .int), 2)
theorem fX4_restore : xCal mX4_restore 0 := ⟨xg_r (i := 567) (by decide +kernel) rfl, xi_X4, by decide +kernel, by decide +kernel, by decide⟩
theorem vX4_restore : xVir mX4_restore := ⟨xg_r (i := 565) (by decide +kernel) rfl, xg_r (i := 566) (by decide +kernel) rfl⟩
def mX4_record : xMI := (yX4_record, cX4_record, 2, none, 1)
theorem fX4_record : xCal mX4_record 0 := ⟨xg_r (i := 571) (by decide +kernel) rfl, xi_X4, by decide +kernel, by decide +kernel, by decide⟩
theorem vX4_record : xVir mX4_record := ⟨xg_r (i := 570) (by decide +kernel) rfl, xg_l (i := 21) (by decide +kernel) rfl⟩
def mX4_addRule : xMI := (yX4_addRule, cX4_addRule, 5, (some .int), 5)
theorem fX4_addRule : xCal mX4_addRule 4 := ⟨xg_r (i := 575) (by decide +kernel) rfl, xi_X4, by decide +kernel, by decide +kernel, by decide⟩
theorem vX4_addRule : xVir mX4_addRule := ⟨xg_r (i := 573) (by decide +kernel) rfl, xg_r (i := 574) (by decide +kernel) rfl⟩
def mX4_isByte : xMI := (yX4_isByte, cX4_isByte, 1, (some .boolean), 1)
theorem fX4_isByte : xCal mX4_isByte 1 := ⟨xg_r (i := 578) (by decide +kernel) rfl, xi_X4, by decide +kernel, by decide +kernel, by decide⟩
theorem sX4_isByte : xSta mX4_isByte := xg_r (i := 577) (by decide +kernel) rfl
def mX4_in : xMI := (yX4_in, cX4_in, 3, (some .boolean), 0)
theorem fX4_in : xCal mX4_in 3 := ⟨xg_r (i := 581) (by decide +kernel) rfl, xi_X4, by decide +kernel, by decide +kernel, by decide⟩
theorem sX4_in : xSta mX4_in := xg_r (i := 580) (by decide +kernel) rfl
def mX4_isRankAndAction : xMI := (yX4_isRankAndAction, cX4_isRankAndAction, 2, (some .boolean), 1)
theorem fX4_isRankAndAction : xCal mX4_isRankAndAction 2 := ⟨xg_r (i := 584) (by decide +kernel) rfl, xi_X4, by decide +kernel, by decide +kernel, by decide⟩
theorem sX4_isRankAndAction : xSta mX4_isRankAndAction := xg_r (i := 583) (by decide +kernel) rfl
def mX4_freeSlots : xMI := (yX4_freeSlots, cX4_freeSlots, 1, (some .int), 2)
theorem fX4_freeSlots : xCal mX4_freeSlots 0 := ⟨xg_r (i := 588) (by decide +kernel) rfl, xi_X4, by decide +kernel, by decide +kernel, by decide⟩
theorem vX4_freeSlots : xVir mX4_freeSlots := ⟨xg_r (i := 587) (by decide +kernel) rfl, xg_l (i := 22) (by decide +kernel) rfl⟩
def mX4_add : xMI := (yX4_add, cX4_add, 6, (some .int), 4)
theorem fX4_add : xCal mX4_add 4 := ⟨xg_r (i := 592) (by decide +kernel) rfl, xi_X4, by decide +kernel, by decide +kernel, by decide⟩
theorem vX4_add : xVir mX4_add := ⟨xg_r (i := 591) (by decide +kernel) rfl, xg_l (i := 23) (by decide +kernel) rfl⟩
def mX4_makeRoom : xMI := (yX4_makeRoom, cX4_makeRoom, 6, (some .int), 3)
theorem fX4_makeRoom : xCal mX4_makeRoom 1 := ⟨xg_r (i := 596) (by decide +kernel) rfl, xi_X4, by decide +kernel, by decide +kernel, by decide⟩
theorem vX4_makeRoom : xVir mX4_makeRoom := ⟨xg_r (i := 595) (by decide +kernel) rfl, xg_l (i := 24) (by decide +kernel) rfl⟩
def mX4_lastUpTo : xMI := (yX4_lastUpTo, cX4_lastUpTo, 4, (some .int), 1)
theorem fX4_lastUpTo : xCal mX4_lastUpTo 1 := ⟨xg_r (i := 600) (by decide +kernel) rfl, xi_X4, by decide +kernel, by decide +kernel, by decide⟩
theorem vX4_lastUpTo : xVir mX4_lastUpTo := ⟨xg_r (i := 599) (by decide +kernel) rfl, xg_l (i := 25) (by decide +kernel) rfl⟩
def mX4_at : xMI := (yX4_at, cX4_at, 3, (some .int), 0)
theorem fX4_at : xCal mX4_at 2 := ⟨xg_r (i := 604) (by decide +kernel) rfl, xi_X4, by decide +kernel, by decide +kernel, by decide⟩
theorem vX4_at : xVir mX4_at := ⟨xg_r (i := 603) (by decide +kernel) rfl, xg_l (i := 26) (by decide +kernel) rfl⟩
def mX4_firstAbove : xMI := (yX4_firstAbove, cX4_firstAbove, 4, (some .int), 1)
theorem fX4_firstAbove : xCal mX4_firstAbove 1 := ⟨xg_r (i := 608) (by decide +kernel) rfl, xi_X4, by decide +kernel, by decide +kernel, by decide⟩
theorem vX4_firstAbove : xVir mX4_firstAbove := ⟨xg_r (i := 607) (by decide +kernel) rfl, xg_l (i := 27) (by decide +kernel) rfl⟩
def mX4_moves : xMI := (yX4_moves, cX4_moves, 6, (some .int), 2)
theorem fX4_moves : xCal mX4_moves 1 := ⟨xg_r (i := 612) (by decide +kernel) rfl, xi_X4, by decide +kernel, by decide +kernel, by decide⟩
theorem vX4_moves : xVir mX4_moves := ⟨xg_r (i := 611) (by decide +kernel) rfl, xg_l (i := 28) (by decide +kernel) rfl⟩
def mX4_freeBehind : xMI := (yX4_freeBehind, cX4_freeBehind, 3, (some .int), 1)
theorem fX4_freeBehind : xCal mX4_freeBehind 1 := ⟨xg_r (i := 616) (by decide +kernel) rfl, xi_X4, by decide +kernel, by decide +kernel, by decide⟩
theorem vX4_freeBehind : xVir mX4_freeBehind := ⟨xg_r (i := 615) (by decide +kernel) rfl, xg_l (i := 29) (by decide +kernel) rfl⟩
def mX4_freeAhead : xMI := (yX4_freeAhead, cX4_freeAhead, 3, (some .int), 1)
theorem fX4_freeAhead : xCal mX4_freeAhead 1 := ⟨xg_r (i := 620) (by decide +kernel) rfl, xi_X4, by decide +kernel, by decide +kernel, by decide⟩
theorem vX4_freeAhead : xVir mX4_freeAhead := ⟨xg_r (i := 619) (by decide +kernel) rfl, xg_l (i := 30) (by decide +kernel) rfl⟩
def mX4_copyEntry : xMI := (yX4_copyEntry, cX4_copyEntry, 4, none, 0)
theorem fX4_copyEntry : xCal mX4_copyEntry 2 := ⟨xg_r (i := 624) (by decide +kernel) rfl, xi_X4, by decide +kernel, by decide +kernel, by decide⟩
theorem vX4_copyEntry : xVir mX4_copyEntry := ⟨xg_r (i := 623) (by decide +kernel) rfl, xg_l (i := 31) (by decide +kernel) rfl⟩
def mX4_put : xMI := (yX4_put, cX4_put, 9, none, 0)
theorem fX4_put : xCal mX4_put 7 := ⟨xg_r (i := 628) (by decide +kernel) rfl, xi_X4, by decide +kernel, by decide +kernel, by decide⟩
theorem vX4_put : xVir mX4_put := ⟨xg_r (i := 627) (by decide +kernel) rfl, xg_l (i := 32) (by decide +kernel) rfl⟩
def mX4_addRange : xMI := (yX4_addRange, cX4_addRange, 8, (some .int), 4)
theorem fX4_addRange : xCal mX4_addRange 4 := ⟨xg_r (i := 632) (by decide +kernel) rfl, xi_X4, by decide +kernel, by decide +kernel, by decide⟩
theorem vX4_addRange : xVir mX4_addRange := ⟨xg_r (i := 630) (by decide +kernel) rfl, xg_r (i := 631) (by decide +kernel) rfl⟩
def mX4_isRange : xMI := (yX4_isRange, cX4_isRange, 2, (some .boolean), 2)
theorem fX4_isRange : xCal mX4_isRange 2 := ⟨xg_r (i := 635) (by decide +kernel) rfl, xi_X4, by decide +kernel, by decide +kernel, by decide⟩
theorem sX4_isRange : xSta mX4_isRange := xg_r (i := 634) (by decide +kernel) rfl
def mX4_blocks : xMI := (yX4_blocks, cX4_blocks, 4, (some .int), 1)
theorem fX4_blocks : xCal mX4_blocks 2 := ⟨xg_r (i := 638) (by decide +kernel) rfl, xi_X4, by decide +kernel, by decide +kernel, by decide⟩
theorem sX4_blocks : xSta mX4_blocks := xg_r (i := 637) (by decide +kernel) rfl
def mX4_block : xMI := (yX4_block, cX4_block, 3, (some .int), 0)
theorem fX4_block : xCal mX4_block 2 := ⟨xg_r (i := 641) (by decide +kernel) rfl, xi_X4, by decide +kernel, by decide +kernel, by decide⟩
theorem sX4_block : xSta mX4_block := xg_r (i := 640) (by decide +kernel) rfl
def mX4_remove : xMI := (yX4_remove, cX4_remove, 4, (some .int), 3)
theorem fX4_remove : xCal mX4_remove 1 := ⟨xg_r (i := 645) (by decide +kernel) rfl, xi_X4, by decide +kernel, by decide +kernel, by decide⟩
theorem vX4_remove : xVir mX4_remove := ⟨xg_r (i := 643) (by decide +kernel) rfl, xg_r (i := 644) (by decide +kernel) rfl⟩
def mX4_isRule : xMI := (yX4_isRule, cX4_isRule, 2, (some .boolean), 2)
theorem fX4_isRule : xCal mX4_isRule 1 := ⟨xg_r (i := 649) (by decide +kernel) rfl, xi_X4, by decide +kernel, by decide +kernel, by decide⟩
theorem vX4_isRule : xVir mX4_isRule := ⟨xg_r (i := 648) (by decide +kernel) rfl, xg_l (i := 33) (by decide +kernel) rfl⟩
def mX4_slotWith : xMI := (yX4_slotWith, cX4_slotWith, 5, (some .int), 1)
theorem fX4_slotWith : xCal mX4_slotWith 2 := ⟨xg_r (i := 653) (by decide +kernel) rfl, xi_X4, by decide +kernel, by decide +kernel, by decide⟩
theorem vX4_slotWith : xVir mX4_slotWith := ⟨xg_r (i := 652) (by decide +kernel) rfl, xg_l (i := 34) (by decide +kernel) rfl⟩
def mX4_clearSlot : xMI := (yX4_clearSlot, cX4_clearSlot, 3, none, 0)
theorem fX4_clearSlot : xCal mX4_clearSlot 1 := ⟨xg_r (i := 657) (by decide +kernel) rfl, xi_X4, by decide +kernel, by decide +kernel, by decide⟩
theorem vX4_clearSlot : xVir mX4_clearSlot := ⟨xg_r (i := 656) (by decide +kernel) rfl, xg_l (i := 35) (by decide +kernel) rfl⟩
def mX4_setPlacing : xMI := (yX4_setPlacing, cX4_setPlacing, 3, (some .int), 2)
theorem fX4_setPlacing : xCal mX4_setPlacing 1 := ⟨xg_r (i := 661) (by decide +kernel) rfl, xi_X4, by decide +kernel, by decide +kernel, by decide⟩
theorem vX4_setPlacing : xVir mX4_setPlacing := ⟨xg_r (i := 659) (by decide +kernel) rfl, xg_r (i := 660) (by decide +kernel) rfl⟩
def mX4_compact : xMI := (yX4_compact, cX4_compact, 1, (some .int), 3)
theorem fX4_compact : xCal mX4_compact 0 := ⟨xg_r (i := 665) (by decide +kernel) rfl, xi_X4, by decide +kernel, by decide +kernel, by decide⟩
theorem vX4_compact : xVir mX4_compact := ⟨xg_r (i := 663) (by decide +kernel) rfl, xg_r (i := 664) (by decide +kernel) rfl⟩
def mX4_rearrange : xMI := (yX4_rearrange, cX4_rearrange, 8, (some .int), 2)
theorem fX4_rearrange : xCal mX4_rearrange 1 := ⟨xg_r (i := 669) (by decide +kernel) rfl, xi_X4, by decide +kernel, by decide +kernel, by decide⟩
theorem vX4_rearrange : xVir mX4_rearrange := ⟨xg_r (i := 668) (by decide +kernel) rfl, xg_l (i := 36) (by decide +kernel) rfl⟩
def mX4_target : xMI := (yX4_target, cX4_target, 3, (some .int), 0)
theorem fX4_target : xCal mX4_target 3 := ⟨xg_r (i := 672) (by decide +kernel) rfl, xi_X4, by decide +kernel, by decide +kernel, by decide⟩
theorem sX4_target : xSta mX4_target := xg_r (i := 671) (by decide +kernel) rfl
def mX4_spread : xMI := (yX4_spread, cX4_spread, 1, (some .int), 3)
theorem fX4_spread : xCal mX4_spread 0 := ⟨xg_r (i := 676) (by decide +kernel) rfl, xi_X4, by decide +kernel, by decide +kernel, by decide⟩
theorem vX4_spread : xVir mX4_spread := ⟨xg_r (i := 674) (by decide +kernel) rfl, xg_r (i := 675) (by decide +kernel) rfl⟩
def mX4_search : xMI := (yX4_search, cX4_search, 3, (some .int), 4)
theorem fX4_search : xCal mX4_search 1 := ⟨xg_r (i := 680) (by decide +kernel) rfl, xi_X4, by decide +kernel, by decide +kernel, by decide⟩
theorem vX4_search : xVir mX4_search := ⟨xg_r (i := 678) (by decide +kernel) rfl, xg_r (i := 679) (by decide +kernel) rfl⟩
def mX4_slotFor : xMI := (yX4_slotFor, cX4_slotFor, 3, (some .int), 2)
theorem fX4_slotFor : xCal mX4_slotFor 1 := ⟨xg_r (i := 684) (by decide +kernel) rfl, xi_X4, by decide +kernel, by decide +kernel, by decide⟩
theorem vX4_slotFor : xVir mX4_slotFor := ⟨xg_r (i := 683) (by decide +kernel) rfl, xg_l (i := 37) (by decide +kernel) rfl⟩
def mX4_matches : xMI := (yX4_matches, cX4_matches, 3, (some .boolean), 1)
theorem fX4_matches : xCal mX4_matches 2 := ⟨xg_r (i := 688) (by decide +kernel) rfl, xi_X4, by decide +kernel, by decide +kernel, by decide⟩
theorem vX4_matches : xVir mX4_matches := ⟨xg_r (i := 687) (by decide +kernel) rfl, xg_l (i := 38) (by decide +kernel) rfl⟩
def mX4_powerOf : xMI := (yX4_powerOf, cX4_powerOf, 4, (some .int), 3)
theorem fX4_powerOf : xCal mX4_powerOf 1 := ⟨xg_r (i := 692) (by decide +kernel) rfl, xi_X4, by decide +kernel, by decide +kernel, by decide⟩
theorem vX4_powerOf : xVir mX4_powerOf := ⟨xg_r (i := 691) (by decide +kernel) rfl, xg_l (i := 39) (by decide +kernel) rfl⟩
def mX4_filter : xMI := (yX4_filter, cX4_filter, 11, (some .int), 2)
theorem fX4_filter : xCal mX4_filter 2 := ⟨xg_r (i := 696) (by decide +kernel) rfl, xi_X4, by decide +kernel, by decide +kernel, by decide⟩
theorem vX4_filter : xVir mX4_filter := ⟨xg_r (i := 695) (by decide +kernel) rfl, xg_l (i := 40) (by decide +kernel) rfl⟩
def mX4_entriesIn : xMI := (yX4_entriesIn, cX4_entriesIn, 4, (some .int), 1)
theorem fX4_entriesIn : xCal mX4_entriesIn 1 := ⟨xg_r (i := 700) (by decide +kernel) rfl, xi_X4, by decide +kernel, by decide +kernel, by decide⟩
theorem vX4_entriesIn : xVir mX4_entriesIn := ⟨xg_r (i := 699) (by decide +kernel) rfl, xg_l (i := 41) (by decide +kernel) rfl⟩
def mX4_find : xMI := (yX4_find, cX4_find, 3, (some .int), 3)
theorem fX4_find : xCal mX4_find 1 := ⟨xg_r (i := 704) (by decide +kernel) rfl, xi_X4, by decide +kernel, by decide +kernel, by decide⟩
theorem vX4_find : xVir mX4_find := ⟨xg_r (i := 702) (by decide +kernel) rfl, xg_r (i := 703) (by decide +kernel) rfl⟩
def mX4_power : xMI := (yX4_power, cX4_power, 2, (some .int), 4)
theorem fX4_power : xCal mX4_power 1 := ⟨xg_r (i := 708) (by decide +kernel) rfl, xi_X4, by decide +kernel, by decide +kernel, by decide⟩
theorem vX4_power : xVir mX4_power := ⟨xg_r (i := 706) (by decide +kernel) rfl, xg_r (i := 707) (by decide +kernel) rfl⟩
def mX4_filterMask : xMI := (yX4_filterMask, cX4_filterMask, 2, (some .int), 3)
theorem fX4_filterMask : xCal mX4_filterMask 1 := ⟨xg_r (i := 712) (by decide +kernel) rfl, xi_X4, by decide +kernel, by decide +kernel, by decide⟩
theorem vX4_filterMask : xVir mX4_filterMask := ⟨xg_r (i := 710) (by decide +kernel) rfl, xg_r (i := 711) (by decide +kernel) rfl⟩
def mX4_filterValue : xMI := (yX4_filterValue, cX4_filterValue, 2, (some .int), 3)
theorem fX4_filterValue : xCal mX4_filterValue 1 := ⟨xg_r (i := 716) (by decide +kernel) rfl, xi_X4, by decide +kernel, by decide +kernel, by decide⟩
theorem vX4_filterValue : xVir mX4_filterValue := ⟨xg_r (i := 714) (by decide +kernel) rfl, xg_r (i := 715) (by decide +kernel) rfl⟩
def mX4_type : xMI := (yX4_type, cX4_type, 2, (some .int), 0)
theorem fX4_type : xCal mX4_type 1 := ⟨xg_r (i := 720) (by decide +kernel) rfl, xi_X4, by decide +kernel, by decide +kernel, by decide⟩
theorem vX4_type : xVir mX4_type := ⟨xg_r (i := 718) (by decide +kernel) rfl, xg_r (i := 719) (by decide +kernel) rfl⟩
def mX4_clearText : xMI := (yX4_clearText, cX4_clearText, 2, (some .int), 0)
theorem fX4_clearText : xCal mX4_clearText 0 := ⟨xg_r (i := 724) (by decide +kernel) rfl, xi_X4, by decide +kernel, by decide +kernel, by decide⟩
theorem vX4_clearText : xVir mX4_clearText := ⟨xg_r (i := 722) (by decide +kernel) rfl, xg_r (i := 723) (by decide +kernel) rfl⟩
def mX4_addText : xMI := (yX4_addText, cX4_addText, 2, (some .int), 5)
theorem fX4_addText : xCal mX4_addText 0 := ⟨xg_r (i := 728) (by decide +kernel) rfl, xi_X4, by decide +kernel, by decide +kernel, by decide⟩
theorem vX4_addText : xVir mX4_addText := ⟨xg_r (i := 726) (by decide +kernel) rfl, xg_r (i := 727) (by decide +kernel) rfl⟩
def mX4_readText : xMI := (yX4_readText, cX4_readText, 2, (some .boolean), 4)
theorem fX4_readText : xCal mX4_readText 0 := ⟨xg_r (i := 732) (by decide +kernel) rfl, xi_X4, by decide +kernel, by decide +kernel, by decide⟩
theorem vX4_readText : xVir mX4_readText := ⟨xg_r (i := 731) (by decide +kernel) rfl, xg_l (i := 42) (by decide +kernel) rfl⟩
def mX4_readRule : xMI := (yX4_readRule, cX4_readRule, 5, (some .boolean), 3)
theorem fX4_readRule : xCal mX4_readRule 0 := ⟨xg_r (i := 736) (by decide +kernel) rfl, xi_X4, by decide +kernel, by decide +kernel, by decide⟩
theorem vX4_readRule : xVir mX4_readRule := ⟨xg_r (i := 735) (by decide +kernel) rfl, xg_l (i := 43) (by decide +kernel) rfl⟩
def mX4_takes : xMI := (yX4_takes, cX4_takes, 3, (some .boolean), 2)
theorem fX4_takes : xCal mX4_takes 1 := ⟨xg_r (i := 740) (by decide +kernel) rfl, xi_X4, by decide +kernel, by decide +kernel, by decide⟩
theorem vX4_takes : xVir mX4_takes := ⟨xg_r (i := 739) (by decide +kernel) rfl, xg_l (i := 44) (by decide +kernel) rfl⟩
def mX4_sees : xMI := (yX4_sees, cX4_sees, 3, (some .boolean), 1)
theorem fX4_sees : xCal mX4_sees 2 := ⟨xg_r (i := 744) (by decide +kernel) rfl, xi_X4, by decide +kernel, by decide +kernel, by decide⟩
theorem vX4_sees : xVir mX4_sees := ⟨xg_r (i := 743) (by decide +kernel) rfl, xg_l (i := 45) (by decide +kernel) rfl⟩
def mX4_number : xMI := (yX4_number, cX4_number, 4, (some .int), 2)
theorem fX4_number : xCal mX4_number 1 := ⟨xg_r (i := 748) (by decide +kernel) rfl, xi_X4, by decide +kernel, by decide +kernel, by decide⟩
theorem vX4_number : xVir mX4_number := ⟨xg_r (i := 747) (by decide +kernel) rfl, xg_l (i := 46) (by decide +kernel) rfl⟩
def mX4_ruleIn : xMI := (yX4_ruleIn, cX4_ruleIn, 3, (some .int), 3)
theorem fX4_ruleIn : xCal mX4_ruleIn 1 := ⟨xg_r (i := 752) (by decide +kernel) rfl, xi_X4, by decide +kernel, by decide +kernel, by decide⟩
theorem vX4_ruleIn : xVir mX4_ruleIn := ⟨xg_r (i := 750) (by decide +kernel) rfl, xg_r (i := 751) (by decide +kernel) rfl⟩
def mX4_inSlot : xMI := (yX4_inSlot, cX4_inSlot, 3, (some .int), 2)
theorem fX4_inSlot : xCal mX4_inSlot 2 := ⟨xg_r (i := 756) (by decide +kernel) rfl, xi_X4, by decide +kernel, by decide +kernel, by decide⟩
theorem vX4_inSlot : xVir mX4_inSlot := ⟨xg_r (i := 755) (by decide +kernel) rfl, xg_l (i := 47) (by decide +kernel) rfl⟩
def mX4_isSlot : xMI := (yX4_isSlot, cX4_isSlot, 1, (some .boolean), 1)
theorem fX4_isSlot : xCal mX4_isSlot 1 := ⟨xg_r (i := 759) (by decide +kernel) rfl, xi_X4, by decide +kernel, by decide +kernel, by decide⟩
theorem sX4_isSlot : xSta mX4_isSlot := xg_r (i := 758) (by decide +kernel) rfl
def mX4_maskIn : xMI := (yX4_maskIn, cX4_maskIn, 2, (some .int), 3)
theorem fX4_maskIn : xCal mX4_maskIn 1 := ⟨xg_r (i := 763) (by decide +kernel) rfl, xi_X4, by decide +kernel, by decide +kernel, by decide⟩
theorem vX4_maskIn : xVir mX4_maskIn := ⟨xg_r (i := 761) (by decide +kernel) rfl, xg_r (i := 762) (by decide +kernel) rfl⟩
def mX4_valueIn : xMI := (yX4_valueIn, cX4_valueIn, 2, (some .int), 3)
theorem fX4_valueIn : xCal mX4_valueIn 1 := ⟨xg_r (i := 767) (by decide +kernel) rfl, xi_X4, by decide +kernel, by decide +kernel, by decide⟩
theorem vX4_valueIn : xVir mX4_valueIn := ⟨xg_r (i := 765) (by decide +kernel) rfl, xg_r (i := 766) (by decide +kernel) rfl⟩
def mX4_sortIn : xMI := (yX4_sortIn, cX4_sortIn, 4, (some .int), 3)
theorem fX4_sortIn : xCal mX4_sortIn 1 := ⟨xg_r (i := 771) (by decide +kernel) rfl, xi_X4, by decide +kernel, by decide +kernel, by decide⟩
theorem vX4_sortIn : xVir mX4_sortIn := ⟨xg_r (i := 769) (by decide +kernel) rfl, xg_r (i := 770) (by decide +kernel) rfl⟩
def mX4_slotOf : xMI := (yX4_slotOf, cX4_slotOf, 4, (some .int), 2)
theorem fX4_slotOf : xCal mX4_slotOf 2 := ⟨xg_r (i := 775) (by decide +kernel) rfl, xi_X4, by decide +kernel, by decide +kernel, by decide⟩
theorem vX4_slotOf : xVir mX4_slotOf := ⟨xg_r (i := 773) (by decide +kernel) rfl, xg_r (i := 774) (by decide +kernel) rfl⟩
def mX4_parts : xMI := (yX4_parts, cX4_parts, 2, (some .int), 3)
theorem fX4_parts : xCal mX4_parts 1 := ⟨xg_r (i := 779) (by decide +kernel) rfl, xi_X4, by decide +kernel, by decide +kernel, by decide⟩
theorem vX4_parts : xVir mX4_parts := ⟨xg_r (i := 777) (by decide +kernel) rfl, xg_r (i := 778) (by decide +kernel) rfl⟩
def mX4_partsOf : xMI := (yX4_partsOf, cX4_partsOf, 4, (some .int), 1)
theorem fX4_partsOf : xCal mX4_partsOf 1 := ⟨xg_r (i := 783) (by decide +kernel) rfl, xi_X4, by decide +kernel, by decide +kernel, by decide⟩
theorem vX4_partsOf : xVir mX4_partsOf := ⟨xg_r (i := 782) (by decide +kernel) rfl, xg_l (i := 48) (by decide +kernel) rfl⟩
def mX4_rank : xMI := (yX4_rank, cX4_rank, 2, (some .int), 4)
theorem fX4_rank : xCal mX4_rank 1 := ⟨xg_r (i := 787) (by decide +kernel) rfl, xi_X4, by decide +kernel, by decide +kernel, by decide⟩
theorem vX4_rank : xVir mX4_rank := ⟨xg_r (i := 785) (by decide +kernel) rfl, xg_r (i := 786) (by decide +kernel) rfl⟩
def mX4_ofRule : xMI := (yX4_ofRule, cX4_ofRule, 3, (some .int), 3)
theorem fX4_ofRule : xCal mX4_ofRule 2 := ⟨xg_r (i := 791) (by decide +kernel) rfl, xi_X4, by decide +kernel, by decide +kernel, by decide⟩
theorem vX4_ofRule : xVir mX4_ofRule := ⟨xg_r (i := 790) (by decide +kernel) rfl, xg_l (i := 49) (by decide +kernel) rfl⟩
def mX4_action : xMI := (yX4_action, cX4_action, 2, (some .int), 4)
theorem fX4_action : xCal mX4_action 1 := ⟨xg_r (i := 795) (by decide +kernel) rfl, xi_X4, by decide +kernel, by decide +kernel, by decide⟩
theorem vX4_action : xVir mX4_action := ⟨xg_r (i := 793) (by decide +kernel) rfl, xg_r (i := 794) (by decide +kernel) rfl⟩
def mX4_hits : xMI := (yX4_hits, cX4_hits, 2, (some .int), 4)
theorem fX4_hits : xCal mX4_hits 1 := ⟨xg_r (i := 799) (by decide +kernel) rfl, xi_X4, by decide +kernel, by decide +kernel, by decide⟩
theorem vX4_hits : xVir mX4_hits := ⟨xg_r (i := 797) (by decide +kernel) rfl, xg_r (i := 798) (by decide +kernel) rfl⟩
def mX4_hiddenBy : xMI := (yX4_hiddenBy, cX4_hiddenBy, 3, (some .int), 3)
theorem fX4_hiddenBy : xCal mX4_hiddenBy 1 := ⟨xg_r (i := 803) (by decide +kernel) rfl, xi_X4, by decide +kernel, by decide +kernel, by decide⟩
theorem vX4_hiddenBy : xVir mX4_hiddenBy := ⟨xg_r (i := 801) (by decide +kernel) rfl, xg_r (i := 802) (by decide +kernel) rfl⟩
def mX4_hides : xMI := (yX4_hides, cX4_hides, 5, (some .boolean), 2)
theorem fX4_hides : xCal mX4_hides 2 := ⟨xg_r (i := 807) (by decide +kernel) rfl, xi_X4, by decide +kernel, by decide +kernel, by decide⟩
theorem vX4_hides : xVir mX4_hides := ⟨xg_r (i := 806) (by decide +kernel) rfl, xg_l (i := 50) (by decide +kernel) rfl⟩
def mX4_keysFor : xMI := (yX4_keysFor, cX4_keysFor, 2, (some .int), 4)
theorem fX4_keysFor : xCal mX4_keysFor 1 := ⟨xg_r (i := 811) (by decide +kernel) rfl, xi_X4, by decide +kernel, by decide +kernel, by decide⟩
theorem vX4_keysFor : xVir mX4_keysFor := ⟨xg_r (i := 809) (by decide +kernel) rfl, xg_r (i := 810) (by decide +kernel) rfl⟩
def mX4_keysWith : xMI := (yX4_keysWith, cX4_keysWith, 4, (some .int), 3)
theorem fX4_keysWith : xCal mX4_keysWith 1 := ⟨xg_r (i := 815) (by decide +kernel) rfl, xi_X4, by decide +kernel, by decide +kernel, by decide⟩
theorem vX4_keysWith : xVir mX4_keysWith := ⟨xg_r (i := 814) (by decide +kernel) rfl, xg_l (i := 51) (by decide +kernel) rfl⟩
def mX4_wouldMove : xMI := (yX4_wouldMove, cX4_wouldMove, 3, (some .int), 3)
theorem fX4_wouldMove : xCal mX4_wouldMove 1 := ⟨xg_r (i := 819) (by decide +kernel) rfl, xi_X4, by decide +kernel, by decide +kernel, by decide⟩
theorem vX4_wouldMove : xVir mX4_wouldMove := ⟨xg_r (i := 817) (by decide +kernel) rfl, xg_r (i := 818) (by decide +kernel) rfl⟩
def mX4_entriesFor : xMI := (yX4_entriesFor, cX4_entriesFor, 3, (some .int), 3)
theorem fX4_entriesFor : xCal mX4_entriesFor 2 := ⟨xg_r (i := 823) (by decide +kernel) rfl, xi_X4, by decide +kernel, by decide +kernel, by decide⟩
theorem vX4_entriesFor : xVir mX4_entriesFor := ⟨xg_r (i := 821) (by decide +kernel) rfl, xg_r (i := 822) (by decide +kernel) rfl⟩
def mX4_total : xMI := (yX4_total, cX4_total, 2, (some .int), 5)
theorem fX4_total : xCal mX4_total 1 := ⟨xg_r (i := 827) (by decide +kernel) rfl, xi_X4, by decide +kernel, by decide +kernel, by decide⟩
theorem vX4_total : xVir mX4_total := ⟨xg_r (i := 825) (by decide +kernel) rfl, xg_r (i := 826) (by decide +kernel) rfl⟩
def mX4_rules : xMI := (yX4_rules, cX4_rules, 3, (some .int), 1)
theorem fX4_rules : xCal mX4_rules 0 := ⟨xg_r (i := 831) (by decide +kernel) rfl, xi_X4, by decide +kernel, by decide +kernel, by decide⟩
theorem vX4_rules : xVir mX4_rules := ⟨xg_r (i := 830) (by decide +kernel) rfl, xg_l (i := 52) (by decide +kernel) rfl⟩
def mX4_entriesWithoutKeys : xMI := (yX4_entriesWithoutKeys, cX4_entriesWithoutKeys, 3, (some .int), 4)
theorem fX4_entriesWithoutKeys : xCal mX4_entriesWithoutKeys 0 := ⟨xg_r (i := 835) (by decide +kernel) rfl, xi_X4, by decide +kernel, by decide +kernel, by decide⟩
theorem vX4_entriesWithoutKeys : xVir mX4_entriesWithoutKeys := ⟨xg_r (i := 834) (by decide +kernel) rfl, xg_l (i := 53) (by decide +kernel) rfl⟩
theorem lkL_9 : Cond.methodLink RL 9 yX3_init ∈ gw := xg_r (i := 10) (by decide +kernel) rfl
theorem lkX3_1 : Cond.methodLink RX3 1 objectInit ∈ gw := xg_r (i := 13) (by decide +kernel) rfl
theorem lkX3_9 : Cond.methodLink RX3 9 yX1_init ∈ gw := xg_r (i := 18) (by decide +kernel) rfl
theorem lkX1_3 : Cond.methodLink RX1 3 objectInit ∈ gw := xg_r (i := 21) (by decide +kernel) rfl
theorem lkX3_21 : Cond.methodLink RX3 21 yX0_init ∈ gw := xg_r (i := 73) (by decide +kernel) rfl
theorem lkX0_1 : Cond.methodLink RX0 1 objectInit ∈ gw := xg_r (i := 76) (by decide +kernel) rfl
theorem lkX0_22 : Cond.methodLink RX0 22 yX1_init ∈ gw := xg_r (i := 79) (by decide +kernel) rfl
theorem lkX3_28 : Cond.methodLinkNest RX3 28 yX2_init "TernaryMatcher" ∈ xnw := xn_r (i := 93) (by decide +kernel) rfl
theorem lkX2_5 : Cond.methodLink RX2 5 objectInit ∈ gw := xg_r (i := 96) (by decide +kernel) rfl
theorem lkL_13 : Cond.methodLink RL 13 yX3_addRule ∈ gw := xg_r (i := 144) (by decide +kernel) rfl
theorem lkX3_37 : Cond.methodLink RX3 37 yX3_isKey ∈ gw := xg_r (i := 148) (by decide +kernel) rfl
theorem lkX3_41 : Cond.methodLink RX3 41 yX3_isRank ∈ gw := xg_r (i := 151) (by decide +kernel) rfl
theorem lkX3_44 : Cond.methodLink RX3 44 yX3_isAction ∈ gw := xg_r (i := 154) (by decide +kernel) rfl
theorem lkX3_47 : Cond.methodLink RX3 47 yX1_freeSlots ∈ gw := xg_r (i := 157) (by decide +kernel) rfl
theorem lkX1_60 : Cond.methodLink RX1 60 yX1_entries ∈ gw := xg_r (i := 161) (by decide +kernel) rfl
theorem lkX1_56 : Cond.methodLink RX1 56 yX1_entriesInBank ∈ gw := xg_r (i := 165) (by decide +kernel) rfl
theorem lkX1_53 : Cond.methodLink RX1 53 yX1_holdsEntry ∈ gw := xg_r (i := 169) (by decide +kernel) rfl
theorem lkX3_51 : Cond.methodLink RX3 51 yX0_record ∈ gw := xg_r (i := 173) (by decide +kernel) rfl
theorem lkX0_23 : Cond.methodLink RX0 23 yJ9_floorMod_7cf53 ∈ gw := xg_r (i := 177) (by decide +kernel) rfl
theorem lkX0_29 : Cond.methodLinkNest RX0 29 yX3_copyState "TernaryMatcher" ∈ xnw := xn_r (i := 180) (by decide +kernel) rfl
theorem lkX3_210 : Cond.methodLink RX3 210 yX1_copyFrom ∈ gw := xg_r (i := 183) (by decide +kernel) rfl
theorem lkX3_55 : Cond.methodLink RX3 55 yX1_addSingle ∈ gw := xg_r (i := 187) (by decide +kernel) rfl
theorem lkX1_64 : Cond.methodLink RX1 64 yX1_openSlot ∈ gw := xg_r (i := 191) (by decide +kernel) rfl
theorem lkX1_75 : Cond.methodLink RX1 75 yX1_lastSlotUpTo ∈ gw := xg_r (i := 195) (by decide +kernel) rfl
theorem lkX1_78 : Cond.methodLink RX1 78 yX1_firstSlotBeyond ∈ gw := xg_r (i := 199) (by decide +kernel) rfl
theorem lkX1_81 : Cond.methodLink RX1 81 yX1_placeBetween ∈ gw := xg_r (i := 203) (by decide +kernel) rfl
theorem lkX1_84 : Cond.methodLink RX1 84 yX1_movesUpFrom ∈ gw := xg_r (i := 207) (by decide +kernel) rfl
theorem lkX1_87 : Cond.methodLink RX1 87 yX1_movesDownFrom ∈ gw := xg_r (i := 211) (by decide +kernel) rfl
theorem lkX1_90 : Cond.methodLink RX1 90 yX1_moveUp ∈ gw := xg_r (i := 215) (by decide +kernel) rfl
theorem lkX1_102 : Cond.methodLink RX1 102 yX1_moveEntry ∈ gw := xg_r (i := 219) (by decide +kernel) rfl
theorem lkX1_49 : Cond.methodLinkNest RX1 49 yX3_isSlot "TernaryMatcher" ∈ xnw := xn_r (i := 223) (by decide +kernel) rfl
theorem lkX1_94 : Cond.methodLink RX1 94 yX1_moveDown ∈ gw := xg_r (i := 226) (by decide +kernel) rfl
theorem lkX1_67 : Cond.methodLink RX1 67 yX1_fill ∈ gw := xg_r (i := 230) (by decide +kernel) rfl
theorem lkL_18 : Cond.methodLink RL 18 yX3_addRange ∈ gw := xg_r (i := 234) (by decide +kernel) rfl
theorem lkX3_59 : Cond.methodLink RX3 59 yX3_isRange ∈ gw := xg_r (i := 238) (by decide +kernel) rfl
theorem lkX3_63 : Cond.methodLink RX3 63 yX3_blocksOf ∈ gw := xg_r (i := 241) (by decide +kernel) rfl
theorem lkX3_207 : Cond.methodLink RX3 207 yX3_blockSize ∈ gw := xg_r (i := 244) (by decide +kernel) rfl
theorem lkX3_67 : Cond.methodLink RX3 67 yX1_addBlocks ∈ gw := xg_r (i := 247) (by decide +kernel) rfl
theorem lkX1_71 : Cond.methodLinkNest RX1 71 yX3_blockSize "TernaryMatcher" ∈ xnw := xn_r (i := 251) (by decide +kernel) rfl
theorem lkL_22 : Cond.methodLink RL 22 yX3_remove ∈ gw := xg_r (i := 252) (by decide +kernel) rfl
theorem lkX3_70 : Cond.methodLink RX3 70 yX1_entriesOf ∈ gw := xg_r (i := 256) (by decide +kernel) rfl
theorem lkX3_74 : Cond.methodLink RX3 74 yX1_dropEntriesOf ∈ gw := xg_r (i := 260) (by decide +kernel) rfl
theorem lkL_27 : Cond.methodLink RL 27 yX3_setPlacing ∈ gw := xg_r (i := 264) (by decide +kernel) rfl
theorem lkL_31 : Cond.methodLink RL 31 yX3_compact ∈ gw := xg_r (i := 268) (by decide +kernel) rfl
theorem lkX3_82 : Cond.methodLink RX3 82 yX3_rearrange ∈ gw := xg_r (i := 272) (by decide +kernel) rfl
theorem lkX3_201 : Cond.methodLink RX3 201 yX1_entriesOutOfShare ∈ gw := xg_r (i := 276) (by decide +kernel) rfl
theorem lkX1_105 : Cond.methodLink RX1 105 yX1_firstSlotOfShare ∈ gw := xg_r (i := 280) (by decide +kernel) rfl
theorem lkX3_204 : Cond.methodLink RX3 204 yX1_moveIntoShares ∈ gw := xg_r (i := 283) (by decide +kernel) rfl
theorem lkX1_108 : Cond.methodLink RX1 108 yX1_moveToFront ∈ gw := xg_r (i := 287) (by decide +kernel) rfl
theorem lkL_36 : Cond.methodLink RL 36 yX3_spread ∈ gw := xg_r (i := 291) (by decide +kernel) rfl
theorem lkX3_85 : Cond.methodLink RX3 85 yX1_entries ∈ gw := xg_r (i := 295) (by decide +kernel) rfl
theorem lkL_40 : Cond.methodLink RL 40 yX3_search ∈ gw := xg_r (i := 296) (by decide +kernel) rfl
theorem lkX3_88 : Cond.methodLink RX3 88 yX1_slotFoundBy ∈ gw := xg_r (i := 300) (by decide +kernel) rfl
theorem lkX3_91 : Cond.methodLink RX3 91 yX1_countSearch ∈ gw := xg_r (i := 304) (by decide +kernel) rfl
theorem lkX1_119 : Cond.methodLink RX1 119 yX1_powerFor ∈ gw := xg_r (i := 308) (by decide +kernel) rfl
theorem lkX1_122 : Cond.methodLink RX1 122 yX1_commonMask ∈ gw := xg_r (i := 312) (by decide +kernel) rfl
theorem lkX1_128 : Cond.methodLink RX1 128 yX1_firstEntryOfBank ∈ gw := xg_r (i := 316) (by decide +kernel) rfl
theorem lkX1_125 : Cond.methodLink RX1 125 yX1_commonValue ∈ gw := xg_r (i := 320) (by decide +kernel) rfl
theorem lkX3_99 : Cond.methodLink RX3 99 yX1_told ∈ gw := xg_r (i := 324) (by decide +kernel) rfl
theorem lkL_44 : Cond.methodLink RL 44 yX3_type ∈ gw := xg_r (i := 328) (by decide +kernel) rfl
theorem lkX3_103 : Cond.methodLink RX3 103 yX2_append ∈ gw := xg_r (i := 332) (by decide +kernel) rfl
theorem lkL_49 : Cond.methodLink RL 49 yX3_clearText ∈ gw := xg_r (i := 336) (by decide +kernel) rfl
theorem lkL_53 : Cond.methodLink RL 53 yX3_addText ∈ gw := xg_r (i := 340) (by decide +kernel) rfl
theorem lkX3_110 : Cond.methodLink RX3 110 yX2_readRules ∈ gw := xg_r (i := 344) (by decide +kernel) rfl
theorem lkX2_37 : Cond.methodLink RX2 37 yX2_readEntry ∈ gw := xg_r (i := 348) (by decide +kernel) rfl
theorem lkX2_51 : Cond.methodLink RX2 51 yX2_sign ∈ gw := xg_r (i := 352) (by decide +kernel) rfl
theorem lkX2_41 : Cond.methodLink RX2 41 yX2_skip ∈ gw := xg_r (i := 356) (by decide +kernel) rfl
theorem lkX2_45 : Cond.methodLink RX2 45 yX2_readRank ∈ gw := xg_r (i := 360) (by decide +kernel) rfl
theorem lkX2_55 : Cond.methodLink RX2 55 yX2_digit ∈ gw := xg_r (i := 364) (by decide +kernel) rfl
theorem lkX2_48 : Cond.methodLink RX2 48 yX2_readAction ∈ gw := xg_r (i := 368) (by decide +kernel) rfl
theorem lkL_57 : Cond.methodLink RL 57 yX3_undo ∈ gw := xg_r (i := 372) (by decide +kernel) rfl
theorem lkX3_131 : Cond.methodLink RX3 131 yX0_takeLatestInto ∈ gw := xg_r (i := 376) (by decide +kernel) rfl
theorem lkL_61 : Cond.methodLink RL 61 yX3_keep ∈ gw := xg_r (i := 380) (by decide +kernel) rfl
theorem lkX3_134 : Cond.methodLink RX3 134 yX3_copyState ∈ gw := xg_r (i := 384) (by decide +kernel) rfl
theorem lkL_65 : Cond.methodLink RL 65 yX3_restore ∈ gw := xg_r (i := 385) (by decide +kernel) rfl
theorem lkL_69 : Cond.methodLink RL 69 yX3_ruleIn ∈ gw := xg_r (i := 389) (by decide +kernel) rfl
theorem lkL_73 : Cond.methodLink RL 73 yX3_maskIn ∈ gw := xg_r (i := 393) (by decide +kernel) rfl
theorem lkL_77 : Cond.methodLink RL 77 yX3_valueIn ∈ gw := xg_r (i := 397) (by decide +kernel) rfl
theorem lkL_81 : Cond.methodLink RL 81 yX3_sortIn ∈ gw := xg_r (i := 401) (by decide +kernel) rfl
theorem lkX3_147 : Cond.methodLink RX3 147 yX3_sortOfMask ∈ gw := xg_r (i := 405) (by decide +kernel) rfl
theorem lkL_85 : Cond.methodLink RL 85 yX3_slotOf ∈ gw := xg_r (i := 408) (by decide +kernel) rfl
theorem lkX3_150 : Cond.methodLink RX3 150 yX1_slotHolding ∈ gw := xg_r (i := 412) (by decide +kernel) rfl
theorem lkL_90 : Cond.methodLink RL 90 yX3_parts ∈ gw := xg_r (i := 416) (by decide +kernel) rfl
theorem lkL_94 : Cond.methodLink RL 94 yX3_rank ∈ gw := xg_r (i := 420) (by decide +kernel) rfl
theorem lkL_98 : Cond.methodLink RL 98 yX3_action ∈ gw := xg_r (i := 424) (by decide +kernel) rfl
theorem lkL_102 : Cond.methodLink RL 102 yX3_hits ∈ gw := xg_r (i := 428) (by decide +kernel) rfl
theorem lkL_106 : Cond.methodLink RL 106 yX3_find ∈ gw := xg_r (i := 432) (by decide +kernel) rfl
theorem lkL_110 : Cond.methodLink RL 110 yX3_power ∈ gw := xg_r (i := 436) (by decide +kernel) rfl
theorem lkX3_159 : Cond.methodLink RX3 159 yX1_powerFor ∈ gw := xg_r (i := 440) (by decide +kernel) rfl
theorem lkL_114 : Cond.methodLink RL 114 yX3_filterMask ∈ gw := xg_r (i := 441) (by decide +kernel) rfl
theorem lkX3_162 : Cond.methodLink RX3 162 yX3_isBank ∈ gw := xg_r (i := 445) (by decide +kernel) rfl
theorem lkX3_165 : Cond.methodLink RX3 165 yX1_commonMask ∈ gw := xg_r (i := 448) (by decide +kernel) rfl
theorem lkL_118 : Cond.methodLink RL 118 yX3_filterValue ∈ gw := xg_r (i := 449) (by decide +kernel) rfl
theorem lkX3_168 : Cond.methodLink RX3 168 yX1_commonValue ∈ gw := xg_r (i := 453) (by decide +kernel) rfl
theorem lkL_122 : Cond.methodLink RL 122 yX3_hiddenBy ∈ gw := xg_r (i := 454) (by decide +kernel) rfl
theorem lkX3_171 : Cond.methodLink RX3 171 yX3_isSlot ∈ gw := xg_r (i := 458) (by decide +kernel) rfl
theorem lkX3_174 : Cond.methodLink RX3 174 yX1_slotHiding ∈ gw := xg_r (i := 459) (by decide +kernel) rfl
theorem lkL_126 : Cond.methodLink RL 126 yX3_keysFor ∈ gw := xg_r (i := 463) (by decide +kernel) rfl
theorem lkX3_177 : Cond.methodLink RX3 177 yX1_keysFinding ∈ gw := xg_r (i := 467) (by decide +kernel) rfl
theorem lkX1_111 : Cond.methodLink RX1 111 yX1_slotFoundBy ∈ gw := xg_r (i := 471) (by decide +kernel) rfl
theorem lkL_130 : Cond.methodLink RL 130 yX3_wouldMove ∈ gw := xg_r (i := 472) (by decide +kernel) rfl
theorem lkX3_180 : Cond.methodLink RX3 180 yX1_movesFor ∈ gw := xg_r (i := 476) (by decide +kernel) rfl
theorem lkX1_97 : Cond.methodLink RX1 97 yJ9_min_7cf53 ∈ gw := xg_r (i := 480) (by decide +kernel) rfl
theorem lkL_134 : Cond.methodLink RL 134 yX3_entriesFor ∈ gw := xg_r (i := 483) (by decide +kernel) rfl
theorem lkL_138 : Cond.methodLink RL 138 yX3_total ∈ gw := xg_r (i := 487) (by decide +kernel) rfl
theorem lkX3_183 : Cond.methodLink RX3 183 yX1_rules ∈ gw := xg_r (i := 491) (by decide +kernel) rfl
theorem lkX3_198 : Cond.methodLink RX3 198 yX1_entriesNeverFound ∈ gw := xg_r (i := 495) (by decide +kernel) rfl
theorem lkX1_114 : Cond.methodLink RX1 114 yJ6_bitCount_0f7a4 ∈ gw := xg_r (i := 499) (by decide +kernel) rfl
theorem lkL_12 : Cond.methodLink RL 12 yX4_init ∈ gw := xg_r (i := 507) (by decide +kernel) rfl
theorem lkX4_1 : Cond.methodLink RX4 1 objectInit ∈ gw := xg_r (i := 510) (by decide +kernel) rfl
theorem lkL_60 : Cond.methodLink RL 60 yX4_undo ∈ gw := xg_r (i := 545) (by decide +kernel) rfl
theorem lkX4_36 : Cond.methodLink RX4 36 yX4_copyState ∈ gw := xg_r (i := 549) (by decide +kernel) rfl
theorem lkL_64 : Cond.methodLink RL 64 yX4_keep ∈ gw := xg_r (i := 552) (by decide +kernel) rfl
theorem lkX4_44 : Cond.methodLink RX4 44 yX4_entries ∈ gw := xg_r (i := 556) (by decide +kernel) rfl
theorem lkX4_51 : Cond.methodLink RX4 51 yX4_isFree ∈ gw := xg_r (i := 560) (by decide +kernel) rfl
theorem lkL_68 : Cond.methodLink RL 68 yX4_restore ∈ gw := xg_r (i := 564) (by decide +kernel) rfl
theorem lkX4_48 : Cond.methodLink RX4 48 yX4_record ∈ gw := xg_r (i := 568) (by decide +kernel) rfl
theorem lkL_17 : Cond.methodLink RL 17 yX4_addRule ∈ gw := xg_r (i := 572) (by decide +kernel) rfl
theorem lkX4_79 : Cond.methodLink RX4 79 yX4_isByte ∈ gw := xg_r (i := 576) (by decide +kernel) rfl
theorem lkX4_28 : Cond.methodLink RX4 28 yX4_in ∈ gw := xg_r (i := 579) (by decide +kernel) rfl
theorem lkX4_89 : Cond.methodLink RX4 89 yX4_isRankAndAction ∈ gw := xg_r (i := 582) (by decide +kernel) rfl
theorem lkX4_93 : Cond.methodLink RX4 93 yX4_freeSlots ∈ gw := xg_r (i := 585) (by decide +kernel) rfl
theorem lkX4_96 : Cond.methodLink RX4 96 yX4_add ∈ gw := xg_r (i := 589) (by decide +kernel) rfl
theorem lkX4_82 : Cond.methodLink RX4 82 yX4_makeRoom ∈ gw := xg_r (i := 593) (by decide +kernel) rfl
theorem lkX4_59 : Cond.methodLink RX4 59 yX4_lastUpTo ∈ gw := xg_r (i := 597) (by decide +kernel) rfl
theorem lkX4_55 : Cond.methodLink RX4 55 yX4_at ∈ gw := xg_r (i := 601) (by decide +kernel) rfl
theorem lkX4_63 : Cond.methodLink RX4 63 yX4_firstAbove ∈ gw := xg_r (i := 605) (by decide +kernel) rfl
theorem lkX4_72 : Cond.methodLink RX4 72 yX4_moves ∈ gw := xg_r (i := 609) (by decide +kernel) rfl
theorem lkX4_66 : Cond.methodLink RX4 66 yX4_freeBehind ∈ gw := xg_r (i := 613) (by decide +kernel) rfl
theorem lkX4_69 : Cond.methodLink RX4 69 yX4_freeAhead ∈ gw := xg_r (i := 617) (by decide +kernel) rfl
theorem lkX4_75 : Cond.methodLink RX4 75 yX4_copyEntry ∈ gw := xg_r (i := 621) (by decide +kernel) rfl
theorem lkX4_85 : Cond.methodLink RX4 85 yX4_put ∈ gw := xg_r (i := 625) (by decide +kernel) rfl
theorem lkL_21 : Cond.methodLink RL 21 yX4_addRange ∈ gw := xg_r (i := 629) (by decide +kernel) rfl
theorem lkX4_103 : Cond.methodLink RX4 103 yX4_isRange ∈ gw := xg_r (i := 633) (by decide +kernel) rfl
theorem lkX4_106 : Cond.methodLink RX4 106 yX4_blocks ∈ gw := xg_r (i := 636) (by decide +kernel) rfl
theorem lkX4_100 : Cond.methodLink RX4 100 yX4_block ∈ gw := xg_r (i := 639) (by decide +kernel) rfl
theorem lkL_26 : Cond.methodLink RL 26 yX4_remove ∈ gw := xg_r (i := 642) (by decide +kernel) rfl
theorem lkX4_112 : Cond.methodLink RX4 112 yX4_isRule ∈ gw := xg_r (i := 646) (by decide +kernel) rfl
theorem lkX4_109 : Cond.methodLink RX4 109 yX4_slotWith ∈ gw := xg_r (i := 650) (by decide +kernel) rfl
theorem lkX4_115 : Cond.methodLink RX4 115 yX4_clearSlot ∈ gw := xg_r (i := 654) (by decide +kernel) rfl
theorem lkL_30 : Cond.methodLink RL 30 yX4_setPlacing ∈ gw := xg_r (i := 658) (by decide +kernel) rfl
theorem lkL_35 : Cond.methodLink RL 35 yX4_compact ∈ gw := xg_r (i := 662) (by decide +kernel) rfl
theorem lkX4_123 : Cond.methodLink RX4 123 yX4_rearrange ∈ gw := xg_r (i := 666) (by decide +kernel) rfl
theorem lkX4_119 : Cond.methodLink RX4 119 yX4_target ∈ gw := xg_r (i := 670) (by decide +kernel) rfl
theorem lkL_39 : Cond.methodLink RL 39 yX4_spread ∈ gw := xg_r (i := 673) (by decide +kernel) rfl
theorem lkL_43 : Cond.methodLink RL 43 yX4_search ∈ gw := xg_r (i := 677) (by decide +kernel) rfl
theorem lkX4_137 : Cond.methodLink RX4 137 yX4_slotFor ∈ gw := xg_r (i := 681) (by decide +kernel) rfl
theorem lkX4_127 : Cond.methodLink RX4 127 yX4_matches ∈ gw := xg_r (i := 685) (by decide +kernel) rfl
theorem lkX4_140 : Cond.methodLink RX4 140 yX4_powerOf ∈ gw := xg_r (i := 689) (by decide +kernel) rfl
theorem lkX4_133 : Cond.methodLink RX4 133 yX4_filter ∈ gw := xg_r (i := 693) (by decide +kernel) rfl
theorem lkX4_130 : Cond.methodLink RX4 130 yX4_entriesIn ∈ gw := xg_r (i := 697) (by decide +kernel) rfl
theorem lkL_109 : Cond.methodLink RL 109 yX4_find ∈ gw := xg_r (i := 701) (by decide +kernel) rfl
theorem lkL_113 : Cond.methodLink RL 113 yX4_power ∈ gw := xg_r (i := 705) (by decide +kernel) rfl
theorem lkL_117 : Cond.methodLink RL 117 yX4_filterMask ∈ gw := xg_r (i := 709) (by decide +kernel) rfl
theorem lkL_121 : Cond.methodLink RL 121 yX4_filterValue ∈ gw := xg_r (i := 713) (by decide +kernel) rfl
theorem lkL_48 : Cond.methodLink RL 48 yX4_type ∈ gw := xg_r (i := 717) (by decide +kernel) rfl
theorem lkL_52 : Cond.methodLink RL 52 yX4_clearText ∈ gw := xg_r (i := 721) (by decide +kernel) rfl
theorem lkL_56 : Cond.methodLink RL 56 yX4_addText ∈ gw := xg_r (i := 725) (by decide +kernel) rfl
theorem lkX4_165 : Cond.methodLink RX4 165 yX4_readText ∈ gw := xg_r (i := 729) (by decide +kernel) rfl
theorem lkX4_161 : Cond.methodLink RX4 161 yX4_readRule ∈ gw := xg_r (i := 733) (by decide +kernel) rfl
theorem lkX4_152 : Cond.methodLink RX4 152 yX4_takes ∈ gw := xg_r (i := 737) (by decide +kernel) rfl
theorem lkX4_149 : Cond.methodLink RX4 149 yX4_sees ∈ gw := xg_r (i := 741) (by decide +kernel) rfl
theorem lkX4_155 : Cond.methodLink RX4 155 yX4_number ∈ gw := xg_r (i := 745) (by decide +kernel) rfl
theorem lkL_72 : Cond.methodLink RL 72 yX4_ruleIn ∈ gw := xg_r (i := 749) (by decide +kernel) rfl
theorem lkX4_171 : Cond.methodLink RX4 171 yX4_inSlot ∈ gw := xg_r (i := 753) (by decide +kernel) rfl
theorem lkX4_168 : Cond.methodLink RX4 168 yX4_isSlot ∈ gw := xg_r (i := 757) (by decide +kernel) rfl
theorem lkL_76 : Cond.methodLink RL 76 yX4_maskIn ∈ gw := xg_r (i := 760) (by decide +kernel) rfl
theorem lkL_80 : Cond.methodLink RL 80 yX4_valueIn ∈ gw := xg_r (i := 764) (by decide +kernel) rfl
theorem lkL_84 : Cond.methodLink RL 84 yX4_sortIn ∈ gw := xg_r (i := 768) (by decide +kernel) rfl
theorem lkL_89 : Cond.methodLink RL 89 yX4_slotOf ∈ gw := xg_r (i := 772) (by decide +kernel) rfl
theorem lkL_93 : Cond.methodLink RL 93 yX4_parts ∈ gw := xg_r (i := 776) (by decide +kernel) rfl
theorem lkX4_174 : Cond.methodLink RX4 174 yX4_partsOf ∈ gw := xg_r (i := 780) (by decide +kernel) rfl
theorem lkL_97 : Cond.methodLink RL 97 yX4_rank ∈ gw := xg_r (i := 784) (by decide +kernel) rfl
theorem lkX4_177 : Cond.methodLink RX4 177 yX4_ofRule ∈ gw := xg_r (i := 788) (by decide +kernel) rfl
theorem lkL_101 : Cond.methodLink RL 101 yX4_action ∈ gw := xg_r (i := 792) (by decide +kernel) rfl
theorem lkL_105 : Cond.methodLink RL 105 yX4_hits ∈ gw := xg_r (i := 796) (by decide +kernel) rfl
theorem lkL_125 : Cond.methodLink RL 125 yX4_hiddenBy ∈ gw := xg_r (i := 800) (by decide +kernel) rfl
theorem lkX4_180 : Cond.methodLink RX4 180 yX4_hides ∈ gw := xg_r (i := 804) (by decide +kernel) rfl
theorem lkL_129 : Cond.methodLink RL 129 yX4_keysFor ∈ gw := xg_r (i := 808) (by decide +kernel) rfl
theorem lkX4_183 : Cond.methodLink RX4 183 yX4_keysWith ∈ gw := xg_r (i := 812) (by decide +kernel) rfl
theorem lkL_133 : Cond.methodLink RL 133 yX4_wouldMove ∈ gw := xg_r (i := 816) (by decide +kernel) rfl
theorem lkL_137 : Cond.methodLink RL 137 yX4_entriesFor ∈ gw := xg_r (i := 820) (by decide +kernel) rfl
theorem lkL_141 : Cond.methodLink RL 141 yX4_total ∈ gw := xg_r (i := 824) (by decide +kernel) rfl
theorem lkX4_186 : Cond.methodLink RX4 186 yX4_rules ∈ gw := xg_r (i := 828) (by decide +kernel) rfl
theorem lkX4_189 : Cond.methodLink RX4 189 yX4_entriesWithoutKeys ∈ gw := xg_r (i := 832) (by decide +kernel) rfl
theorem flX1_9 : Cond.fieldLink RX1 9 RX1 "ruleAt" "[I" ∈ gw := xg_r (i := 22) (by decide +kernel) rfl
theorem flX3_138 : Cond.fieldLinkNest RX3 138 RX1 "ruleAt" "[I" "TernaryMatcher" ∈ xnw := xn_r (i := 23) (by decide +kernel) rfl
theorem flX1_15 : Cond.fieldLink RX1 15 RX1 "partAt" "[I" ∈ gw := xg_r (i := 24) (by decide +kernel) rfl
theorem flX1_18 : Cond.fieldLink RX1 18 RX1 "maskAt" "[I" ∈ gw := xg_r (i := 25) (by decide +kernel) rfl
theorem flX3_141 : Cond.fieldLinkNest RX3 141 RX1 "maskAt" "[I" "TernaryMatcher" ∈ xnw := xn_r (i := 26) (by decide +kernel) rfl
theorem flX1_21 : Cond.fieldLink RX1 21 RX1 "valueAt" "[I" ∈ gw := xg_r (i := 27) (by decide +kernel) rfl
theorem flX3_144 : Cond.fieldLinkNest RX3 144 RX1 "valueAt" "[I" "TernaryMatcher" ∈ xnw := xn_r (i := 28) (by decide +kernel) rfl
theorem flX1_24 : Cond.fieldLink RX1 24 RX1 "rankAt" "[I" ∈ gw := xg_r (i := 29) (by decide +kernel) rfl
theorem flX3_153 : Cond.fieldLinkNest RX3 153 RX1 "rankAt" "[I" "TernaryMatcher" ∈ xnw := xn_r (i := 30) (by decide +kernel) rfl
theorem flX1_27 : Cond.fieldLink RX1 27 RX1 "actionAt" "[I" ∈ gw := xg_r (i := 31) (by decide +kernel) rfl
theorem flX3_95 : Cond.fieldLinkNest RX3 95 RX1 "actionAt" "[I" "TernaryMatcher" ∈ xnw := xn_r (i := 32) (by decide +kernel) rfl
theorem flX1_30 : Cond.fieldLink RX1 30 RX1 "hitsAt" "[I" ∈ gw := xg_r (i := 33) (by decide +kernel) rfl
theorem flX3_156 : Cond.fieldLinkNest RX3 156 RX1 "hitsAt" "[I" "TernaryMatcher" ∈ xnw := xn_r (i := 34) (by decide +kernel) rfl
theorem flX1_33 : Cond.fieldLink RX1 33 RX1 "placing" "I" ∈ gw := xg_r (i := 35) (by decide +kernel) rfl
theorem flX3_78 : Cond.fieldLinkNest RX3 78 RX1 "placing" "I" "TernaryMatcher" ∈ xnw := xn_r (i := 36) (by decide +kernel) rfl
theorem flX1_37 : Cond.fieldLink RX1 37 RX1 "rulesAdded" "I" ∈ gw := xg_r (i := 37) (by decide +kernel) rfl
theorem flX3_186 : Cond.fieldLinkNest RX3 186 RX1 "rulesAdded" "I" "TernaryMatcher" ∈ xnw := xn_r (i := 38) (by decide +kernel) rfl
theorem flX1_40 : Cond.fieldLink RX1 40 RX1 "entriesMoved" "I" ∈ gw := xg_r (i := 39) (by decide +kernel) rfl
theorem flX3_189 : Cond.fieldLinkNest RX3 189 RX1 "entriesMoved" "I" "TernaryMatcher" ∈ xnw := xn_r (i := 40) (by decide +kernel) rfl
theorem flX1_43 : Cond.fieldLink RX1 43 RX1 "searches" "I" ∈ gw := xg_r (i := 41) (by decide +kernel) rfl
theorem flX3_192 : Cond.fieldLinkNest RX3 192 RX1 "searches" "I" "TernaryMatcher" ∈ xnw := xn_r (i := 42) (by decide +kernel) rfl
theorem flX1_46 : Cond.fieldLink RX1 46 RX1 "powers" "I" ∈ gw := xg_r (i := 43) (by decide +kernel) rfl
theorem flX3_195 : Cond.fieldLinkNest RX3 195 RX1 "powers" "I" "TernaryMatcher" ∈ xnw := xn_r (i := 44) (by decide +kernel) rfl
theorem flX0_11 : Cond.fieldLink RX0 11 RX0 "states" "[LTernaryMatcher$Memory;" ∈ gw := xg_r (i := 80) (by decide +kernel) rfl
theorem flX0_15 : Cond.fieldLink RX0 15 RX0 "oldest" "I" ∈ gw := xg_r (i := 81) (by decide +kernel) rfl
theorem flX0_19 : Cond.fieldLink RX0 19 RX0 "count" "I" ∈ gw := xg_r (i := 82) (by decide +kernel) rfl
theorem flX3_128 : Cond.fieldLinkNest RX3 128 RX0 "count" "I" "TernaryMatcher" ∈ xnw := xn_r (i := 83) (by decide +kernel) rfl
theorem flX2_11 : Cond.fieldLink RX2 11 RX2 "signs" "[I" ∈ gw := xg_r (i := 97) (by decide +kernel) rfl
theorem flX2_15 : Cond.fieldLink RX2 15 RX2 "length" "I" ∈ gw := xg_r (i := 98) (by decide +kernel) rfl
theorem flX3_107 : Cond.fieldLinkNest RX3 107 RX2 "length" "I" "TernaryMatcher" ∈ xnw := xn_r (i := 99) (by decide +kernel) rfl
theorem flX2_19 : Cond.fieldLink RX2 19 RX2 "at" "I" ∈ gw := xg_r (i := 100) (by decide +kernel) rfl
theorem flX2_22 : Cond.fieldLink RX2 22 RX2 "rulesRead" "I" ∈ gw := xg_r (i := 101) (by decide +kernel) rfl
theorem flX3_113 : Cond.fieldLinkNest RX3 113 RX2 "rulesRead" "I" "TernaryMatcher" ∈ xnw := xn_r (i := 102) (by decide +kernel) rfl
theorem flX2_25 : Cond.fieldLink RX2 25 RX2 "masks" "[I" ∈ gw := xg_r (i := 103) (by decide +kernel) rfl
theorem flX3_119 : Cond.fieldLinkNest RX3 119 RX2 "masks" "[I" "TernaryMatcher" ∈ xnw := xn_r (i := 104) (by decide +kernel) rfl
theorem flX2_28 : Cond.fieldLink RX2 28 RX2 "values" "[I" ∈ gw := xg_r (i := 105) (by decide +kernel) rfl
theorem flX3_116 : Cond.fieldLinkNest RX3 116 RX2 "values" "[I" "TernaryMatcher" ∈ xnw := xn_r (i := 106) (by decide +kernel) rfl
theorem flX2_31 : Cond.fieldLink RX2 31 RX2 "ranks" "[I" ∈ gw := xg_r (i := 107) (by decide +kernel) rfl
theorem flX3_122 : Cond.fieldLinkNest RX3 122 RX2 "ranks" "[I" "TernaryMatcher" ∈ xnw := xn_r (i := 108) (by decide +kernel) rfl
theorem flX2_34 : Cond.fieldLink RX2 34 RX2 "actions" "[I" ∈ gw := xg_r (i := 109) (by decide +kernel) rfl
theorem flX3_125 : Cond.fieldLinkNest RX3 125 RX2 "actions" "[I" "TernaryMatcher" ∈ xnw := xn_r (i := 110) (by decide +kernel) rfl
theorem flX3_10 : Cond.fieldLink RX3 10 RX3 "memory" "LTernaryMatcher$Memory;" ∈ gw := xg_r (i := 128) (by decide +kernel) rfl
theorem flX3_16 : Cond.fieldLink RX3 16 RX3 "snapshot" "LTernaryMatcher$Memory;" ∈ gw := xg_r (i := 129) (by decide +kernel) rfl
theorem flX3_22 : Cond.fieldLink RX3 22 RX3 "history" "LTernaryMatcher$History;" ∈ gw := xg_r (i := 130) (by decide +kernel) rfl
theorem flX3_29 : Cond.fieldLink RX3 29 RX3 "text" "LTernaryMatcher$RuleText;" ∈ gw := xg_r (i := 131) (by decide +kernel) rfl
theorem flX3_33 : Cond.fieldLink RX3 33 RX3 "snapshotTaken" "Z" ∈ gw := xg_r (i := 132) (by decide +kernel) rfl
theorem flX4_7 : Cond.fieldLink RX4 7 RX4 "now" "[I" ∈ gw := xg_r (i := 511) (by decide +kernel) rfl
theorem flX4_13 : Cond.fieldLink RX4 13 RX4 "spare" "[I" ∈ gw := xg_r (i := 512) (by decide +kernel) rfl
theorem flX4_16 : Cond.fieldLink RX4 16 RX4 "past" "[I" ∈ gw := xg_r (i := 513) (by decide +kernel) rfl
theorem flX4_32 : Cond.fieldLink RX4 32 RX4 "states" "I" ∈ gw := xg_r (i := 514) (by decide +kernel) rfl
theorem flX4_19 : Cond.fieldLink RX4 19 RX4 "kept" "[I" ∈ gw := xg_r (i := 515) (by decide +kernel) rfl
theorem flX4_40 : Cond.fieldLink RX4 40 RX4 "isKept" "Z" ∈ gw := xg_r (i := 516) (by decide +kernel) rfl
theorem flX4_22 : Cond.fieldLink RX4 22 RX4 "text" "[I" ∈ gw := xg_r (i := 517) (by decide +kernel) rfl
theorem flX4_143 : Cond.fieldLink RX4 143 RX4 "length" "I" ∈ gw := xg_r (i := 518) (by decide +kernel) rfl
theorem flX4_25 : Cond.fieldLink RX4 25 RX4 "told" "[I" ∈ gw := xg_r (i := 519) (by decide +kernel) rfl
theorem flX4_158 : Cond.fieldLink RX4 158 RX4 "toldMany" "I" ∈ gw := xg_r (i := 520) (by decide +kernel) rfl
theorem flX4_146 : Cond.fieldLink RX4 146 RX4 "spot" "I" ∈ gw := xg_r (i := 521) (by decide +kernel) rfl
theorem iwX0 : ∀ w ∈ u_ws RX0 TX0 3, w ∈ gw := List.forall_mem_cons.mpr ⟨xg_r (i := 84) (by decide +kernel) rfl, List.forall_mem_cons.mpr ⟨xg_r (i := 86) (by decide +kernel) rfl, List.forall_mem_cons.mpr ⟨xg_r (i := 88) (by decide +kernel) rfl, fun _ h => absurd h List.not_mem_nil⟩⟩⟩
theorem iwX1 : ∀ w ∈ u_ws RX1 TX1 12, w ∈ gw := List.forall_mem_cons.mpr ⟨xg_r (i := 45) (by decide +kernel) rfl, List.forall_mem_cons.mpr ⟨xg_r (i := 47) (by decide +kernel) rfl, List.forall_mem_cons.mpr ⟨xg_r (i := 49) (by decide +kernel) rfl, List.forall_mem_cons.mpr ⟨xg_r (i := 51) (by decide +kernel) rfl, List.forall_mem_cons.mpr ⟨xg_r (i := 53) (by decide +kernel) rfl, List.forall_mem_cons.mpr ⟨xg_r (i := 55) (by decide +kernel) rfl, List.forall_mem_cons.mpr ⟨xg_r (i := 57) (by decide +kernel) rfl, List.forall_mem_cons.mpr ⟨xg_r (i := 59) (by decide +kernel) rfl, List.forall_mem_cons.mpr ⟨xg_r (i := 61) (by decide +kernel) rfl, List.forall_mem_cons.mpr ⟨xg_r (i := 63) (by decide +kernel) rfl, List.forall_mem_cons.mpr ⟨xg_r (i := 65) (by decide +kernel) rfl, List.forall_mem_cons.mpr ⟨xg_r (i := 67) (by decide +kernel) rfl, fun _ h => absurd h List.not_mem_nil⟩⟩⟩⟩⟩⟩⟩⟩⟩⟩⟩⟩
theorem iwX2 : ∀ w ∈ u_ws RX2 TX2 8, w ∈ gw := List.forall_mem_cons.mpr ⟨xg_r (i := 111) (by decide +kernel) rfl, List.forall_mem_cons.mpr ⟨xg_r (i := 113) (by decide +kernel) rfl, List.forall_mem_cons.mpr ⟨xg_r (i := 115) (by decide +kernel) rfl, List.forall_mem_cons.mpr ⟨xg_r (i := 117) (by decide +kernel) rfl, List.forall_mem_cons.mpr ⟨xg_r (i := 119) (by decide +kernel) rfl, List.forall_mem_cons.mpr ⟨xg_r (i := 121) (by decide +kernel) rfl, List.forall_mem_cons.mpr ⟨xg_r (i := 123) (by decide +kernel) rfl, List.forall_mem_cons.mpr ⟨xg_r (i := 125) (by decide +kernel) rfl, fun _ h => absurd h List.not_mem_nil⟩⟩⟩⟩⟩⟩⟩⟩
theorem iwX3 : ∀ w ∈ u_ws RX3 TX3 5, w ∈ gw := List.forall_mem_cons.mpr ⟨xg_r (i := 133) (by decide +kernel) rfl, List.forall_mem_cons.mpr ⟨xg_r (i := 135) (by decide +kernel) rfl, List.forall_mem_cons.mpr ⟨xg_r (i := 137) (by decide +kernel) rfl, List.forall_mem_cons.mpr ⟨xg_r (i := 139) (by decide +kernel) rfl, List.forall_mem_cons.mpr ⟨xg_r (i := 141) (by decide +kernel) rfl, fun _ h => absurd h List.not_mem_nil⟩⟩⟩⟩⟩
theorem iwX4 : ∀ w ∈ u_ws RX4 TX4 11, w ∈ gw := List.forall_mem_cons.mpr ⟨xg_r (i := 522) (by decide +kernel) rfl, List.forall_mem_cons.mpr ⟨xg_r (i := 524) (by decide +kernel) rfl, List.forall_mem_cons.mpr ⟨xg_r (i := 526) (by decide +kernel) rfl, List.forall_mem_cons.mpr ⟨xg_r (i := 528) (by decide +kernel) rfl, List.forall_mem_cons.mpr ⟨xg_r (i := 530) (by decide +kernel) rfl, List.forall_mem_cons.mpr ⟨xg_r (i := 532) (by decide +kernel) rfl, List.forall_mem_cons.mpr ⟨xg_r (i := 534) (by decide +kernel) rfl, List.forall_mem_cons.mpr ⟨xg_r (i := 536) (by decide +kernel) rfl, List.forall_mem_cons.mpr ⟨xg_r (i := 538) (by decide +kernel) rfl, List.forall_mem_cons.mpr ⟨xg_r (i := 540) (by decide +kernel) rfl, List.forall_mem_cons.mpr ⟨xg_r (i := 542) (by decide +kernel) rfl, fun _ h => absurd h List.not_mem_nil⟩⟩⟩⟩⟩⟩⟩⟩⟩⟩⟩
end
section
theorem dX0_init_0 : decode cX0_init 0 = .ok (.aload_n 0, 1) := by decide +kernel
theorem dX0_init_1 : decode cX0_init 1 = .ok (.invokespecial 1, 3) := by decide +kernel
theorem dX0_init_4 : decode cX0_init 4 = .ok (.aload_n 0, 1) := by decide +kernel
theorem dX0_init_5 : decode cX0_init 5 = .ok (.iconst 4, 1) := by decide +kernel
theorem dX0_init_6 : decode cX0_init 6 = .ok (.anewarray 9, 3) := by decide +kernel
theorem dX0_init_9 : decode cX0_init 9 = .ok (.putfield 11, 3) := by decide +kernel
theorem dX0_init_12 : decode cX0_init 12 = .ok (.aload_n 0, 1) := by decide +kernel
theorem dX0_init_13 : decode cX0_init 13 = .ok (.iconst 0, 1) := by decide +kernel
theorem dX0_init_14 : decode cX0_init 14 = .ok (.putfield 15, 3) := by decide +kernel
theorem dX0_init_17 : decode cX0_init 17 = .ok (.aload_n 0, 1) := by decide +kernel
theorem dX0_init_18 : decode cX0_init 18 = .ok (.iconst 0, 1) := by decide +kernel
theorem dX0_init_19 : decode cX0_init 19 = .ok (.putfield 19, 3) := by decide +kernel
theorem dX0_init_22 : decode cX0_init 22 = .ok (.iconst 0, 1) := by decide +kernel
theorem dX0_init_23 : decode cX0_init 23 = .ok (.istore_n 1, 1) := by decide +kernel
theorem dX0_init_24 : decode cX0_init 24 = .ok (.iload_n 1, 1) := by decide +kernel
theorem dX0_init_25 : decode cX0_init 25 = .ok (.iconst 4, 1) := by decide +kernel
theorem dX0_init_26 : decode cX0_init 26 = .ok (.if_icmp .ge 22, 3) := by decide +kernel
theorem dX0_init_29 : decode cX0_init 29 = .ok (.aload_n 0, 1) := by decide +kernel
theorem dX0_init_30 : decode cX0_init 30 = .ok (.getfield 11, 3) := by decide +kernel
theorem dX0_init_33 : decode cX0_init 33 = .ok (.iload_n 1, 1) := by decide +kernel
theorem dX0_init_34 : decode cX0_init 34 = .ok (.new 9, 3) := by decide +kernel
theorem dX0_init_37 : decode cX0_init 37 = .ok (.dup, 1) := by decide +kernel
theorem dX0_init_38 : decode cX0_init 38 = .ok (.invokespecial 22, 3) := by decide +kernel
theorem dX0_init_41 : decode cX0_init 41 = .ok (.aastore, 1) := by decide +kernel
theorem dX0_init_42 : decode cX0_init 42 = .ok (.iinc 1 1, 3) := by decide +kernel
theorem dX0_init_45 : decode cX0_init 45 = .ok (.goto (-21), 3) := by decide +kernel
theorem dX0_init_48 : decode cX0_init 48 = .ok (.return_, 1) := by decide +kernel
theorem dX0_record_0 : decode cX0_record 0 = .ok (.aload_n 0, 1) := by decide +kernel
theorem dX0_record_1 : decode cX0_record 1 = .ok (.getfield 19, 3) := by decide +kernel
theorem dX0_record_4 : decode cX0_record 4 = .ok (.iconst 4, 1) := by decide +kernel
theorem dX0_record_5 : decode cX0_record 5 = .ok (.if_icmp .ne 27, 3) := by decide +kernel
theorem dX0_record_8 : decode cX0_record 8 = .ok (.aload_n 0, 1) := by decide +kernel
theorem dX0_record_9 : decode cX0_record 9 = .ok (.aload_n 0, 1) := by decide +kernel
theorem dX0_record_10 : decode cX0_record 10 = .ok (.getfield 15, 3) := by decide +kernel
theorem dX0_record_13 : decode cX0_record 13 = .ok (.iconst 1, 1) := by decide +kernel
theorem dX0_record_14 : decode cX0_record 14 = .ok (.iadd, 1) := by decide +kernel
theorem dX0_record_15 : decode cX0_record 15 = .ok (.iconst 4, 1) := by decide +kernel
theorem dX0_record_16 : decode cX0_record 16 = .ok (.invokestatic 23, 3) := by decide +kernel
theorem dX0_record_19 : decode cX0_record 19 = .ok (.putfield 15, 3) := by decide +kernel
theorem dX0_record_22 : decode cX0_record 22 = .ok (.aload_n 0, 1) := by decide +kernel
theorem dX0_record_23 : decode cX0_record 23 = .ok (.dup, 1) := by decide +kernel
theorem dX0_record_24 : decode cX0_record 24 = .ok (.getfield 19, 3) := by decide +kernel
theorem dX0_record_27 : decode cX0_record 27 = .ok (.iconst 1, 1) := by decide +kernel
theorem dX0_record_28 : decode cX0_record 28 = .ok (.isub, 1) := by decide +kernel
theorem dX0_record_29 : decode cX0_record 29 = .ok (.putfield 19, 3) := by decide +kernel
theorem dX0_record_32 : decode cX0_record 32 = .ok (.aload_n 1, 1) := by decide +kernel
theorem dX0_record_33 : decode cX0_record 33 = .ok (.aload_n 0, 1) := by decide +kernel
theorem dX0_record_34 : decode cX0_record 34 = .ok (.getfield 11, 3) := by decide +kernel
theorem dX0_record_37 : decode cX0_record 37 = .ok (.aload_n 0, 1) := by decide +kernel
theorem dX0_record_38 : decode cX0_record 38 = .ok (.getfield 15, 3) := by decide +kernel
theorem dX0_record_41 : decode cX0_record 41 = .ok (.aload_n 0, 1) := by decide +kernel
theorem dX0_record_42 : decode cX0_record 42 = .ok (.getfield 19, 3) := by decide +kernel
theorem dX0_record_45 : decode cX0_record 45 = .ok (.iadd, 1) := by decide +kernel
theorem dX0_record_46 : decode cX0_record 46 = .ok (.iconst 4, 1) := by decide +kernel
theorem dX0_record_47 : decode cX0_record 47 = .ok (.invokestatic 23, 3) := by decide +kernel
theorem dX0_record_50 : decode cX0_record 50 = .ok (.aaload, 1) := by decide +kernel
theorem dX0_record_51 : decode cX0_record 51 = .ok (.invokestatic 29, 3) := by decide +kernel
theorem dX0_record_54 : decode cX0_record 54 = .ok (.aload_n 0, 1) := by decide +kernel
theorem dX0_record_55 : decode cX0_record 55 = .ok (.dup, 1) := by decide +kernel
theorem dX0_record_56 : decode cX0_record 56 = .ok (.getfield 19, 3) := by decide +kernel
theorem dX0_record_59 : decode cX0_record 59 = .ok (.iconst 1, 1) := by decide +kernel
theorem dX0_record_60 : decode cX0_record 60 = .ok (.iadd, 1) := by decide +kernel
theorem dX0_record_61 : decode cX0_record 61 = .ok (.putfield 19, 3) := by decide +kernel
theorem dX0_record_64 : decode cX0_record 64 = .ok (.return_, 1) := by decide +kernel
theorem dX0_takeLatestInto_0 : decode cX0_takeLatestInto 0 = .ok (.aload_n 0, 1) := by decide +kernel
theorem dX0_takeLatestInto_1 : decode cX0_takeLatestInto 1 = .ok (.getfield 19, 3) := by decide +kernel
theorem dX0_takeLatestInto_4 : decode cX0_takeLatestInto 4 = .ok (.ifCond .le 35, 3) := by decide +kernel
theorem dX0_takeLatestInto_7 : decode cX0_takeLatestInto 7 = .ok (.aload_n 0, 1) := by decide +kernel
theorem dX0_takeLatestInto_8 : decode cX0_takeLatestInto 8 = .ok (.dup, 1) := by decide +kernel
theorem dX0_takeLatestInto_9 : decode cX0_takeLatestInto 9 = .ok (.getfield 19, 3) := by decide +kernel
theorem dX0_takeLatestInto_12 : decode cX0_takeLatestInto 12 = .ok (.iconst 1, 1) := by decide +kernel
theorem dX0_takeLatestInto_13 : decode cX0_takeLatestInto 13 = .ok (.isub, 1) := by decide +kernel
theorem dX0_takeLatestInto_14 : decode cX0_takeLatestInto 14 = .ok (.putfield 19, 3) := by decide +kernel
theorem dX0_takeLatestInto_17 : decode cX0_takeLatestInto 17 = .ok (.aload_n 0, 1) := by decide +kernel
theorem dX0_takeLatestInto_18 : decode cX0_takeLatestInto 18 = .ok (.getfield 11, 3) := by decide +kernel
theorem dX0_takeLatestInto_21 : decode cX0_takeLatestInto 21 = .ok (.aload_n 0, 1) := by decide +kernel
theorem dX0_takeLatestInto_22 : decode cX0_takeLatestInto 22 = .ok (.getfield 15, 3) := by decide +kernel
theorem dX0_takeLatestInto_25 : decode cX0_takeLatestInto 25 = .ok (.aload_n 0, 1) := by decide +kernel
theorem dX0_takeLatestInto_26 : decode cX0_takeLatestInto 26 = .ok (.getfield 19, 3) := by decide +kernel
theorem dX0_takeLatestInto_29 : decode cX0_takeLatestInto 29 = .ok (.iadd, 1) := by decide +kernel
theorem dX0_takeLatestInto_30 : decode cX0_takeLatestInto 30 = .ok (.iconst 4, 1) := by decide +kernel
theorem dX0_takeLatestInto_31 : decode cX0_takeLatestInto 31 = .ok (.invokestatic 23, 3) := by decide +kernel
theorem dX0_takeLatestInto_34 : decode cX0_takeLatestInto 34 = .ok (.aaload, 1) := by decide +kernel
theorem dX0_takeLatestInto_35 : decode cX0_takeLatestInto 35 = .ok (.aload_n 1, 1) := by decide +kernel
theorem dX0_takeLatestInto_36 : decode cX0_takeLatestInto 36 = .ok (.invokestatic 29, 3) := by decide +kernel
theorem dX0_takeLatestInto_39 : decode cX0_takeLatestInto 39 = .ok (.return_, 1) := by decide +kernel
theorem dX1_init_0 : decode cX1_init 0 = .ok (.aload_n 0, 1) := by decide +kernel
theorem dX1_init_1 : decode cX1_init 1 = .ok (.invokespecial 3, 3) := by decide +kernel
theorem dX1_init_4 : decode cX1_init 4 = .ok (.aload_n 0, 1) := by decide +kernel
theorem dX1_init_5 : decode cX1_init 5 = .ok (.bipush 32, 2) := by decide +kernel
theorem dX1_init_7 : decode cX1_init 7 = .ok (.newarray .int, 2) := by decide +kernel
theorem dX1_init_9 : decode cX1_init 9 = .ok (.putfield 9, 3) := by decide +kernel
theorem dX1_init_12 : decode cX1_init 12 = .ok (.aload_n 0, 1) := by decide +kernel
theorem dX1_init_13 : decode cX1_init 13 = .ok (.bipush 32, 2) := by decide +kernel
theorem dX1_init_15 : decode cX1_init 15 = .ok (.newarray .int, 2) := by decide +kernel
theorem dX1_init_17 : decode cX1_init 17 = .ok (.putfield 15, 3) := by decide +kernel
theorem dX1_init_20 : decode cX1_init 20 = .ok (.aload_n 0, 1) := by decide +kernel
theorem dX1_init_21 : decode cX1_init 21 = .ok (.bipush 32, 2) := by decide +kernel
theorem dX1_init_23 : decode cX1_init 23 = .ok (.newarray .int, 2) := by decide +kernel
theorem dX1_init_25 : decode cX1_init 25 = .ok (.putfield 18, 3) := by decide +kernel
theorem dX1_init_28 : decode cX1_init 28 = .ok (.aload_n 0, 1) := by decide +kernel
theorem dX1_init_29 : decode cX1_init 29 = .ok (.bipush 32, 2) := by decide +kernel
theorem dX1_init_31 : decode cX1_init 31 = .ok (.newarray .int, 2) := by decide +kernel
theorem dX1_init_33 : decode cX1_init 33 = .ok (.putfield 21, 3) := by decide +kernel
theorem dX1_init_36 : decode cX1_init 36 = .ok (.aload_n 0, 1) := by decide +kernel
theorem dX1_init_37 : decode cX1_init 37 = .ok (.bipush 32, 2) := by decide +kernel
theorem dX1_init_39 : decode cX1_init 39 = .ok (.newarray .int, 2) := by decide +kernel
theorem dX1_init_41 : decode cX1_init 41 = .ok (.putfield 24, 3) := by decide +kernel
theorem dX1_init_44 : decode cX1_init 44 = .ok (.aload_n 0, 1) := by decide +kernel
theorem dX1_init_45 : decode cX1_init 45 = .ok (.bipush 32, 2) := by decide +kernel
theorem dX1_init_47 : decode cX1_init 47 = .ok (.newarray .int, 2) := by decide +kernel
theorem dX1_init_49 : decode cX1_init 49 = .ok (.putfield 27, 3) := by decide +kernel
theorem dX1_init_52 : decode cX1_init 52 = .ok (.aload_n 0, 1) := by decide +kernel
theorem dX1_init_53 : decode cX1_init 53 = .ok (.bipush 32, 2) := by decide +kernel
theorem dX1_init_55 : decode cX1_init 55 = .ok (.newarray .int, 2) := by decide +kernel
theorem dX1_init_57 : decode cX1_init 57 = .ok (.putfield 30, 3) := by decide +kernel
theorem dX1_init_60 : decode cX1_init 60 = .ok (.aload_n 0, 1) := by decide +kernel
theorem dX1_init_61 : decode cX1_init 61 = .ok (.iconst 0, 1) := by decide +kernel
theorem dX1_init_62 : decode cX1_init 62 = .ok (.putfield 33, 3) := by decide +kernel
theorem dX1_init_65 : decode cX1_init 65 = .ok (.aload_n 0, 1) := by decide +kernel
theorem dX1_init_66 : decode cX1_init 66 = .ok (.iconst 0, 1) := by decide +kernel
theorem dX1_init_67 : decode cX1_init 67 = .ok (.putfield 37, 3) := by decide +kernel
theorem dX1_init_70 : decode cX1_init 70 = .ok (.aload_n 0, 1) := by decide +kernel
theorem dX1_init_71 : decode cX1_init 71 = .ok (.iconst 0, 1) := by decide +kernel
theorem dX1_init_72 : decode cX1_init 72 = .ok (.putfield 40, 3) := by decide +kernel
theorem dX1_init_75 : decode cX1_init 75 = .ok (.aload_n 0, 1) := by decide +kernel
theorem dX1_init_76 : decode cX1_init 76 = .ok (.iconst 0, 1) := by decide +kernel
theorem dX1_init_77 : decode cX1_init 77 = .ok (.putfield 43, 3) := by decide +kernel
theorem dX1_init_80 : decode cX1_init 80 = .ok (.aload_n 0, 1) := by decide +kernel
theorem dX1_init_81 : decode cX1_init 81 = .ok (.iconst 0, 1) := by decide +kernel
theorem dX1_init_82 : decode cX1_init 82 = .ok (.putfield 46, 3) := by decide +kernel
theorem dX1_init_85 : decode cX1_init 85 = .ok (.iconst 0, 1) := by decide +kernel
theorem dX1_init_86 : decode cX1_init 86 = .ok (.istore_n 1, 1) := by decide +kernel
theorem dX1_init_87 : decode cX1_init 87 = .ok (.iload_n 1, 1) := by decide +kernel
theorem dX1_init_88 : decode cX1_init 88 = .ok (.bipush 32, 2) := by decide +kernel
theorem dX1_init_90 : decode cX1_init 90 = .ok (.if_icmp .ge 16, 3) := by decide +kernel
theorem dX1_init_93 : decode cX1_init 93 = .ok (.aload_n 0, 1) := by decide +kernel
theorem dX1_init_94 : decode cX1_init 94 = .ok (.getfield 9, 3) := by decide +kernel
theorem dX1_init_97 : decode cX1_init 97 = .ok (.iload_n 1, 1) := by decide +kernel
theorem dX1_init_98 : decode cX1_init 98 = .ok (.iconst (-1), 1) := by decide +kernel
theorem dX1_init_99 : decode cX1_init 99 = .ok (.iastore, 1) := by decide +kernel
theorem dX1_init_100 : decode cX1_init 100 = .ok (.iinc 1 1, 3) := by decide +kernel
theorem dX1_init_103 : decode cX1_init 103 = .ok (.goto (-16), 3) := by decide +kernel
theorem dX1_init_106 : decode cX1_init 106 = .ok (.return_, 1) := by decide +kernel
theorem dX1_copyFrom_0 : decode cX1_copyFrom 0 = .ok (.iconst 0, 1) := by decide +kernel
theorem dX1_copyFrom_1 : decode cX1_copyFrom 1 = .ok (.istore_n 2, 1) := by decide +kernel
theorem dX1_copyFrom_2 : decode cX1_copyFrom 2 = .ok (.iload_n 2, 1) := by decide +kernel
theorem dX1_copyFrom_3 : decode cX1_copyFrom 3 = .ok (.bipush 32, 2) := by decide +kernel
theorem dX1_copyFrom_5 : decode cX1_copyFrom 5 = .ok (.if_icmp .ge 93, 3) := by decide +kernel
theorem dX1_copyFrom_8 : decode cX1_copyFrom 8 = .ok (.aload_n 0, 1) := by decide +kernel
theorem dX1_copyFrom_9 : decode cX1_copyFrom 9 = .ok (.getfield 9, 3) := by decide +kernel
theorem dX1_copyFrom_12 : decode cX1_copyFrom 12 = .ok (.iload_n 2, 1) := by decide +kernel
theorem dX1_copyFrom_13 : decode cX1_copyFrom 13 = .ok (.aload_n 1, 1) := by decide +kernel
theorem dX1_copyFrom_14 : decode cX1_copyFrom 14 = .ok (.getfield 9, 3) := by decide +kernel
theorem dX1_copyFrom_17 : decode cX1_copyFrom 17 = .ok (.iload_n 2, 1) := by decide +kernel
theorem dX1_copyFrom_18 : decode cX1_copyFrom 18 = .ok (.iaload, 1) := by decide +kernel
theorem dX1_copyFrom_19 : decode cX1_copyFrom 19 = .ok (.iastore, 1) := by decide +kernel
theorem dX1_copyFrom_20 : decode cX1_copyFrom 20 = .ok (.aload_n 0, 1) := by decide +kernel
theorem dX1_copyFrom_21 : decode cX1_copyFrom 21 = .ok (.getfield 15, 3) := by decide +kernel
theorem dX1_copyFrom_24 : decode cX1_copyFrom 24 = .ok (.iload_n 2, 1) := by decide +kernel
theorem dX1_copyFrom_25 : decode cX1_copyFrom 25 = .ok (.aload_n 1, 1) := by decide +kernel
theorem dX1_copyFrom_26 : decode cX1_copyFrom 26 = .ok (.getfield 15, 3) := by decide +kernel
theorem dX1_copyFrom_29 : decode cX1_copyFrom 29 = .ok (.iload_n 2, 1) := by decide +kernel
theorem dX1_copyFrom_30 : decode cX1_copyFrom 30 = .ok (.iaload, 1) := by decide +kernel
theorem dX1_copyFrom_31 : decode cX1_copyFrom 31 = .ok (.iastore, 1) := by decide +kernel
theorem dX1_copyFrom_32 : decode cX1_copyFrom 32 = .ok (.aload_n 0, 1) := by decide +kernel
theorem dX1_copyFrom_33 : decode cX1_copyFrom 33 = .ok (.getfield 18, 3) := by decide +kernel
theorem dX1_copyFrom_36 : decode cX1_copyFrom 36 = .ok (.iload_n 2, 1) := by decide +kernel
theorem dX1_copyFrom_37 : decode cX1_copyFrom 37 = .ok (.aload_n 1, 1) := by decide +kernel
theorem dX1_copyFrom_38 : decode cX1_copyFrom 38 = .ok (.getfield 18, 3) := by decide +kernel
theorem dX1_copyFrom_41 : decode cX1_copyFrom 41 = .ok (.iload_n 2, 1) := by decide +kernel
theorem dX1_copyFrom_42 : decode cX1_copyFrom 42 = .ok (.iaload, 1) := by decide +kernel
theorem dX1_copyFrom_43 : decode cX1_copyFrom 43 = .ok (.iastore, 1) := by decide +kernel
theorem dX1_copyFrom_44 : decode cX1_copyFrom 44 = .ok (.aload_n 0, 1) := by decide +kernel
theorem dX1_copyFrom_45 : decode cX1_copyFrom 45 = .ok (.getfield 21, 3) := by decide +kernel
theorem dX1_copyFrom_48 : decode cX1_copyFrom 48 = .ok (.iload_n 2, 1) := by decide +kernel
theorem dX1_copyFrom_49 : decode cX1_copyFrom 49 = .ok (.aload_n 1, 1) := by decide +kernel
theorem dX1_copyFrom_50 : decode cX1_copyFrom 50 = .ok (.getfield 21, 3) := by decide +kernel
theorem dX1_copyFrom_53 : decode cX1_copyFrom 53 = .ok (.iload_n 2, 1) := by decide +kernel
theorem dX1_copyFrom_54 : decode cX1_copyFrom 54 = .ok (.iaload, 1) := by decide +kernel
theorem dX1_copyFrom_55 : decode cX1_copyFrom 55 = .ok (.iastore, 1) := by decide +kernel
theorem dX1_copyFrom_56 : decode cX1_copyFrom 56 = .ok (.aload_n 0, 1) := by decide +kernel
theorem dX1_copyFrom_57 : decode cX1_copyFrom 57 = .ok (.getfield 24, 3) := by decide +kernel
theorem dX1_copyFrom_60 : decode cX1_copyFrom 60 = .ok (.iload_n 2, 1) := by decide +kernel
theorem dX1_copyFrom_61 : decode cX1_copyFrom 61 = .ok (.aload_n 1, 1) := by decide +kernel
theorem dX1_copyFrom_62 : decode cX1_copyFrom 62 = .ok (.getfield 24, 3) := by decide +kernel
theorem dX1_copyFrom_65 : decode cX1_copyFrom 65 = .ok (.iload_n 2, 1) := by decide +kernel
theorem dX1_copyFrom_66 : decode cX1_copyFrom 66 = .ok (.iaload, 1) := by decide +kernel
theorem dX1_copyFrom_67 : decode cX1_copyFrom 67 = .ok (.iastore, 1) := by decide +kernel
theorem dX1_copyFrom_68 : decode cX1_copyFrom 68 = .ok (.aload_n 0, 1) := by decide +kernel
theorem dX1_copyFrom_69 : decode cX1_copyFrom 69 = .ok (.getfield 27, 3) := by decide +kernel
theorem dX1_copyFrom_72 : decode cX1_copyFrom 72 = .ok (.iload_n 2, 1) := by decide +kernel
theorem dX1_copyFrom_73 : decode cX1_copyFrom 73 = .ok (.aload_n 1, 1) := by decide +kernel
theorem dX1_copyFrom_74 : decode cX1_copyFrom 74 = .ok (.getfield 27, 3) := by decide +kernel
theorem dX1_copyFrom_77 : decode cX1_copyFrom 77 = .ok (.iload_n 2, 1) := by decide +kernel
theorem dX1_copyFrom_78 : decode cX1_copyFrom 78 = .ok (.iaload, 1) := by decide +kernel
theorem dX1_copyFrom_79 : decode cX1_copyFrom 79 = .ok (.iastore, 1) := by decide +kernel
theorem dX1_copyFrom_80 : decode cX1_copyFrom 80 = .ok (.aload_n 0, 1) := by decide +kernel
theorem dX1_copyFrom_81 : decode cX1_copyFrom 81 = .ok (.getfield 30, 3) := by decide +kernel
theorem dX1_copyFrom_84 : decode cX1_copyFrom 84 = .ok (.iload_n 2, 1) := by decide +kernel
theorem dX1_copyFrom_85 : decode cX1_copyFrom 85 = .ok (.aload_n 1, 1) := by decide +kernel
theorem dX1_copyFrom_86 : decode cX1_copyFrom 86 = .ok (.getfield 30, 3) := by decide +kernel
theorem dX1_copyFrom_89 : decode cX1_copyFrom 89 = .ok (.iload_n 2, 1) := by decide +kernel
theorem dX1_copyFrom_90 : decode cX1_copyFrom 90 = .ok (.iaload, 1) := by decide +kernel
theorem dX1_copyFrom_91 : decode cX1_copyFrom 91 = .ok (.iastore, 1) := by decide +kernel
theorem dX1_copyFrom_92 : decode cX1_copyFrom 92 = .ok (.iinc 2 1, 3) := by decide +kernel
theorem dX1_copyFrom_95 : decode cX1_copyFrom 95 = .ok (.goto (-93), 3) := by decide +kernel
theorem dX1_copyFrom_98 : decode cX1_copyFrom 98 = .ok (.aload_n 0, 1) := by decide +kernel
theorem dX1_copyFrom_99 : decode cX1_copyFrom 99 = .ok (.aload_n 1, 1) := by decide +kernel
theorem dX1_copyFrom_100 : decode cX1_copyFrom 100 = .ok (.getfield 33, 3) := by decide +kernel
theorem dX1_copyFrom_103 : decode cX1_copyFrom 103 = .ok (.putfield 33, 3) := by decide +kernel
theorem dX1_copyFrom_106 : decode cX1_copyFrom 106 = .ok (.aload_n 0, 1) := by decide +kernel
theorem dX1_copyFrom_107 : decode cX1_copyFrom 107 = .ok (.aload_n 1, 1) := by decide +kernel
theorem dX1_copyFrom_108 : decode cX1_copyFrom 108 = .ok (.getfield 37, 3) := by decide +kernel
theorem dX1_copyFrom_111 : decode cX1_copyFrom 111 = .ok (.putfield 37, 3) := by decide +kernel
theorem dX1_copyFrom_114 : decode cX1_copyFrom 114 = .ok (.aload_n 0, 1) := by decide +kernel
theorem dX1_copyFrom_115 : decode cX1_copyFrom 115 = .ok (.aload_n 1, 1) := by decide +kernel
theorem dX1_copyFrom_116 : decode cX1_copyFrom 116 = .ok (.getfield 40, 3) := by decide +kernel
theorem dX1_copyFrom_119 : decode cX1_copyFrom 119 = .ok (.putfield 40, 3) := by decide +kernel
theorem dX1_copyFrom_122 : decode cX1_copyFrom 122 = .ok (.aload_n 0, 1) := by decide +kernel
theorem dX1_copyFrom_123 : decode cX1_copyFrom 123 = .ok (.aload_n 1, 1) := by decide +kernel
theorem dX1_copyFrom_124 : decode cX1_copyFrom 124 = .ok (.getfield 43, 3) := by decide +kernel
theorem dX1_copyFrom_127 : decode cX1_copyFrom 127 = .ok (.putfield 43, 3) := by decide +kernel
theorem dX1_copyFrom_130 : decode cX1_copyFrom 130 = .ok (.aload_n 0, 1) := by decide +kernel
theorem dX1_copyFrom_131 : decode cX1_copyFrom 131 = .ok (.aload_n 1, 1) := by decide +kernel
theorem dX1_copyFrom_132 : decode cX1_copyFrom 132 = .ok (.getfield 46, 3) := by decide +kernel
theorem dX1_copyFrom_135 : decode cX1_copyFrom 135 = .ok (.putfield 46, 3) := by decide +kernel
theorem dX1_copyFrom_138 : decode cX1_copyFrom 138 = .ok (.return_, 1) := by decide +kernel
theorem dX1_holdsEntry_0 : decode cX1_holdsEntry 0 = .ok (.iload_n 1, 1) := by decide +kernel
theorem dX1_holdsEntry_1 : decode cX1_holdsEntry 1 = .ok (.ifCond .lt 23, 3) := by decide +kernel
theorem dX1_holdsEntry_4 : decode cX1_holdsEntry 4 = .ok (.iload_n 1, 1) := by decide +kernel
theorem dX1_holdsEntry_5 : decode cX1_holdsEntry 5 = .ok (.bipush 32, 2) := by decide +kernel
theorem dX1_holdsEntry_7 : decode cX1_holdsEntry 7 = .ok (.if_icmp .ge 17, 3) := by decide +kernel
theorem dX1_holdsEntry_10 : decode cX1_holdsEntry 10 = .ok (.aload_n 0, 1) := by decide +kernel
theorem dX1_holdsEntry_11 : decode cX1_holdsEntry 11 = .ok (.getfield 9, 3) := by decide +kernel
theorem dX1_holdsEntry_14 : decode cX1_holdsEntry 14 = .ok (.iload_n 1, 1) := by decide +kernel
theorem dX1_holdsEntry_15 : decode cX1_holdsEntry 15 = .ok (.iaload, 1) := by decide +kernel
theorem dX1_holdsEntry_16 : decode cX1_holdsEntry 16 = .ok (.iconst (-1), 1) := by decide +kernel
theorem dX1_holdsEntry_17 : decode cX1_holdsEntry 17 = .ok (.if_icmp .eq 7, 3) := by decide +kernel
theorem dX1_holdsEntry_20 : decode cX1_holdsEntry 20 = .ok (.iconst 1, 1) := by decide +kernel
theorem dX1_holdsEntry_21 : decode cX1_holdsEntry 21 = .ok (.goto 4, 3) := by decide +kernel
theorem dX1_holdsEntry_24 : decode cX1_holdsEntry 24 = .ok (.iconst 0, 1) := by decide +kernel
theorem dX1_holdsEntry_25 : decode cX1_holdsEntry 25 = .ok (.ireturn, 1) := by decide +kernel
theorem dX1_told_0 : decode cX1_told 0 = .ok (.iload_n 2, 1) := by decide +kernel
theorem dX1_told_1 : decode cX1_told 1 = .ok (.invokestatic 49, 3) := by decide +kernel
theorem dX1_told_4 : decode cX1_told 4 = .ok (.ifCond .eq 9, 3) := by decide +kernel
theorem dX1_told_7 : decode cX1_told 7 = .ok (.iload_n 2, 1) := by decide +kernel
theorem dX1_told_8 : decode cX1_told 8 = .ok (.aload_n 1, 1) := by decide +kernel
theorem dX1_told_9 : decode cX1_told 9 = .ok (.arraylength, 1) := by decide +kernel
theorem dX1_told_10 : decode cX1_told 10 = .ok (.if_icmp .lt 5, 3) := by decide +kernel
theorem dX1_told_13 : decode cX1_told 13 = .ok (.iconst (-1), 1) := by decide +kernel
theorem dX1_told_14 : decode cX1_told 14 = .ok (.ireturn, 1) := by decide +kernel
theorem dX1_told_15 : decode cX1_told 15 = .ok (.aload_n 0, 1) := by decide +kernel
theorem dX1_told_16 : decode cX1_told 16 = .ok (.iload_n 2, 1) := by decide +kernel
theorem dX1_told_17 : decode cX1_told 17 = .ok (.invokevirtual 53, 3) := by decide +kernel
theorem dX1_told_20 : decode cX1_told 20 = .ok (.ifCond .eq 9, 3) := by decide +kernel
theorem dX1_told_23 : decode cX1_told 23 = .ok (.aload_n 1, 1) := by decide +kernel
theorem dX1_told_24 : decode cX1_told 24 = .ok (.iload_n 2, 1) := by decide +kernel
theorem dX1_told_25 : decode cX1_told 25 = .ok (.iaload, 1) := by decide +kernel
theorem dX1_told_26 : decode cX1_told 26 = .ok (.goto 5, 3) := by decide +kernel
theorem dX1_told_29 : decode cX1_told 29 = .ok (.bipush (-4), 2) := by decide +kernel
theorem dX1_told_31 : decode cX1_told 31 = .ok (.ireturn, 1) := by decide +kernel
theorem dX1_entries_0 : decode cX1_entries 0 = .ok (.iconst 0, 1) := by decide +kernel
theorem dX1_entries_1 : decode cX1_entries 1 = .ok (.istore_n 1, 1) := by decide +kernel
theorem dX1_entries_2 : decode cX1_entries 2 = .ok (.iconst 0, 1) := by decide +kernel
theorem dX1_entries_3 : decode cX1_entries 3 = .ok (.istore_n 2, 1) := by decide +kernel
theorem dX1_entries_4 : decode cX1_entries 4 = .ok (.iload_n 2, 1) := by decide +kernel
theorem dX1_entries_5 : decode cX1_entries 5 = .ok (.iconst 4, 1) := by decide +kernel
theorem dX1_entries_6 : decode cX1_entries 6 = .ok (.if_icmp .ge 17, 3) := by decide +kernel
theorem dX1_entries_9 : decode cX1_entries 9 = .ok (.iload_n 1, 1) := by decide +kernel
theorem dX1_entries_10 : decode cX1_entries 10 = .ok (.aload_n 0, 1) := by decide +kernel
theorem dX1_entries_11 : decode cX1_entries 11 = .ok (.iload_n 2, 1) := by decide +kernel
theorem dX1_entries_12 : decode cX1_entries 12 = .ok (.invokevirtual 56, 3) := by decide +kernel
theorem dX1_entries_15 : decode cX1_entries 15 = .ok (.iadd, 1) := by decide +kernel
theorem dX1_entries_16 : decode cX1_entries 16 = .ok (.istore_n 1, 1) := by decide +kernel
theorem dX1_entries_17 : decode cX1_entries 17 = .ok (.iinc 2 1, 3) := by decide +kernel
theorem dX1_entries_20 : decode cX1_entries 20 = .ok (.goto (-16), 3) := by decide +kernel
theorem dX1_entries_23 : decode cX1_entries 23 = .ok (.iload_n 1, 1) := by decide +kernel
theorem dX1_entries_24 : decode cX1_entries 24 = .ok (.ireturn, 1) := by decide +kernel
theorem dX1_freeSlots_0 : decode cX1_freeSlots 0 = .ok (.bipush 32, 2) := by decide +kernel
theorem dX1_freeSlots_2 : decode cX1_freeSlots 2 = .ok (.aload_n 0, 1) := by decide +kernel
theorem dX1_freeSlots_3 : decode cX1_freeSlots 3 = .ok (.invokevirtual 60, 3) := by decide +kernel
theorem dX1_freeSlots_6 : decode cX1_freeSlots 6 = .ok (.isub, 1) := by decide +kernel
theorem dX1_freeSlots_7 : decode cX1_freeSlots 7 = .ok (.ireturn, 1) := by decide +kernel
theorem dX1_rules_0 : decode cX1_rules 0 = .ok (.iconst 0, 1) := by decide +kernel
theorem dX1_rules_1 : decode cX1_rules 1 = .ok (.istore_n 1, 1) := by decide +kernel
theorem dX1_rules_2 : decode cX1_rules 2 = .ok (.iconst 0, 1) := by decide +kernel
theorem dX1_rules_3 : decode cX1_rules 3 = .ok (.istore_n 2, 1) := by decide +kernel
theorem dX1_rules_4 : decode cX1_rules 4 = .ok (.iload_n 2, 1) := by decide +kernel
theorem dX1_rules_5 : decode cX1_rules 5 = .ok (.bipush 32, 2) := by decide +kernel
theorem dX1_rules_7 : decode cX1_rules 7 = .ok (.if_icmp .ge 29, 3) := by decide +kernel
theorem dX1_rules_10 : decode cX1_rules 10 = .ok (.aload_n 0, 1) := by decide +kernel
theorem dX1_rules_11 : decode cX1_rules 11 = .ok (.iload_n 2, 1) := by decide +kernel
theorem dX1_rules_12 : decode cX1_rules 12 = .ok (.invokevirtual 53, 3) := by decide +kernel
theorem dX1_rules_15 : decode cX1_rules 15 = .ok (.ifCond .eq 15, 3) := by decide +kernel
theorem dX1_rules_18 : decode cX1_rules 18 = .ok (.aload_n 0, 1) := by decide +kernel
theorem dX1_rules_19 : decode cX1_rules 19 = .ok (.getfield 15, 3) := by decide +kernel
theorem dX1_rules_22 : decode cX1_rules 22 = .ok (.iload_n 2, 1) := by decide +kernel
theorem dX1_rules_23 : decode cX1_rules 23 = .ok (.iaload, 1) := by decide +kernel
theorem dX1_rules_24 : decode cX1_rules 24 = .ok (.ifCond .ne 6, 3) := by decide +kernel
theorem dX1_rules_27 : decode cX1_rules 27 = .ok (.iinc 1 1, 3) := by decide +kernel
theorem dX1_rules_30 : decode cX1_rules 30 = .ok (.iinc 2 1, 3) := by decide +kernel
theorem dX1_rules_33 : decode cX1_rules 33 = .ok (.goto (-29), 3) := by decide +kernel
theorem dX1_rules_36 : decode cX1_rules 36 = .ok (.iload_n 1, 1) := by decide +kernel
theorem dX1_rules_37 : decode cX1_rules 37 = .ok (.ireturn, 1) := by decide +kernel
theorem dX1_entriesOf_0 : decode cX1_entriesOf 0 = .ok (.iconst 0, 1) := by decide +kernel
theorem dX1_entriesOf_1 : decode cX1_entriesOf 1 = .ok (.istore_n 2, 1) := by decide +kernel
theorem dX1_entriesOf_2 : decode cX1_entriesOf 2 = .ok (.iconst 0, 1) := by decide +kernel
theorem dX1_entriesOf_3 : decode cX1_entriesOf 3 = .ok (.istore_n 3, 1) := by decide +kernel
theorem dX1_entriesOf_4 : decode cX1_entriesOf 4 = .ok (.iload_n 3, 1) := by decide +kernel
theorem dX1_entriesOf_5 : decode cX1_entriesOf 5 = .ok (.bipush 32, 2) := by decide +kernel
theorem dX1_entriesOf_7 : decode cX1_entriesOf 7 = .ok (.if_icmp .ge 30, 3) := by decide +kernel
theorem dX1_entriesOf_10 : decode cX1_entriesOf 10 = .ok (.aload_n 0, 1) := by decide +kernel
theorem dX1_entriesOf_11 : decode cX1_entriesOf 11 = .ok (.iload_n 3, 1) := by decide +kernel
theorem dX1_entriesOf_12 : decode cX1_entriesOf 12 = .ok (.invokevirtual 53, 3) := by decide +kernel
theorem dX1_entriesOf_15 : decode cX1_entriesOf 15 = .ok (.ifCond .eq 16, 3) := by decide +kernel
theorem dX1_entriesOf_18 : decode cX1_entriesOf 18 = .ok (.aload_n 0, 1) := by decide +kernel
theorem dX1_entriesOf_19 : decode cX1_entriesOf 19 = .ok (.getfield 9, 3) := by decide +kernel
theorem dX1_entriesOf_22 : decode cX1_entriesOf 22 = .ok (.iload_n 3, 1) := by decide +kernel
theorem dX1_entriesOf_23 : decode cX1_entriesOf 23 = .ok (.iaload, 1) := by decide +kernel
theorem dX1_entriesOf_24 : decode cX1_entriesOf 24 = .ok (.iload_n 1, 1) := by decide +kernel
theorem dX1_entriesOf_25 : decode cX1_entriesOf 25 = .ok (.if_icmp .ne 6, 3) := by decide +kernel
theorem dX1_entriesOf_28 : decode cX1_entriesOf 28 = .ok (.iinc 2 1, 3) := by decide +kernel
theorem dX1_entriesOf_31 : decode cX1_entriesOf 31 = .ok (.iinc 3 1, 3) := by decide +kernel
theorem dX1_entriesOf_34 : decode cX1_entriesOf 34 = .ok (.goto (-30), 3) := by decide +kernel
theorem dX1_entriesOf_37 : decode cX1_entriesOf 37 = .ok (.iload_n 2, 1) := by decide +kernel
theorem dX1_entriesOf_38 : decode cX1_entriesOf 38 = .ok (.ireturn, 1) := by decide +kernel
theorem dX1_slotHolding_0 : decode cX1_slotHolding 0 = .ok (.iconst 0, 1) := by decide +kernel
theorem dX1_slotHolding_1 : decode cX1_slotHolding 1 = .ok (.istore_n 3, 1) := by decide +kernel
theorem dX1_slotHolding_2 : decode cX1_slotHolding 2 = .ok (.iload_n 3, 1) := by decide +kernel
theorem dX1_slotHolding_3 : decode cX1_slotHolding 3 = .ok (.bipush 32, 2) := by decide +kernel
theorem dX1_slotHolding_5 : decode cX1_slotHolding 5 = .ok (.if_icmp .ge 39, 3) := by decide +kernel
theorem dX1_slotHolding_8 : decode cX1_slotHolding 8 = .ok (.aload_n 0, 1) := by decide +kernel
theorem dX1_slotHolding_9 : decode cX1_slotHolding 9 = .ok (.iload_n 3, 1) := by decide +kernel
theorem dX1_slotHolding_10 : decode cX1_slotHolding 10 = .ok (.invokevirtual 53, 3) := by decide +kernel
theorem dX1_slotHolding_13 : decode cX1_slotHolding 13 = .ok (.ifCond .eq 25, 3) := by decide +kernel
theorem dX1_slotHolding_16 : decode cX1_slotHolding 16 = .ok (.aload_n 0, 1) := by decide +kernel
theorem dX1_slotHolding_17 : decode cX1_slotHolding 17 = .ok (.getfield 9, 3) := by decide +kernel
theorem dX1_slotHolding_20 : decode cX1_slotHolding 20 = .ok (.iload_n 3, 1) := by decide +kernel
theorem dX1_slotHolding_21 : decode cX1_slotHolding 21 = .ok (.iaload, 1) := by decide +kernel
theorem dX1_slotHolding_22 : decode cX1_slotHolding 22 = .ok (.iload_n 1, 1) := by decide +kernel
theorem dX1_slotHolding_23 : decode cX1_slotHolding 23 = .ok (.if_icmp .ne 15, 3) := by decide +kernel
theorem dX1_slotHolding_26 : decode cX1_slotHolding 26 = .ok (.aload_n 0, 1) := by decide +kernel
theorem dX1_slotHolding_27 : decode cX1_slotHolding 27 = .ok (.getfield 15, 3) := by decide +kernel
theorem dX1_slotHolding_30 : decode cX1_slotHolding 30 = .ok (.iload_n 3, 1) := by decide +kernel
theorem dX1_slotHolding_31 : decode cX1_slotHolding 31 = .ok (.iaload, 1) := by decide +kernel
theorem dX1_slotHolding_32 : decode cX1_slotHolding 32 = .ok (.iload_n 2, 1) := by decide +kernel
theorem dX1_slotHolding_33 : decode cX1_slotHolding 33 = .ok (.if_icmp .ne 5, 3) := by decide +kernel
theorem dX1_slotHolding_36 : decode cX1_slotHolding 36 = .ok (.iload_n 3, 1) := by decide +kernel
theorem dX1_slotHolding_37 : decode cX1_slotHolding 37 = .ok (.ireturn, 1) := by decide +kernel
theorem dX1_slotHolding_38 : decode cX1_slotHolding 38 = .ok (.iinc 3 1, 3) := by decide +kernel
theorem dX1_slotHolding_41 : decode cX1_slotHolding 41 = .ok (.goto (-39), 3) := by decide +kernel
theorem dX1_slotHolding_44 : decode cX1_slotHolding 44 = .ok (.iconst (-1), 1) := by decide +kernel
theorem dX1_slotHolding_45 : decode cX1_slotHolding 45 = .ok (.ireturn, 1) := by decide +kernel
theorem dX1_dropEntriesOf_0 : decode cX1_dropEntriesOf 0 = .ok (.iconst 0, 1) := by decide +kernel
theorem dX1_dropEntriesOf_1 : decode cX1_dropEntriesOf 1 = .ok (.istore_n 2, 1) := by decide +kernel
theorem dX1_dropEntriesOf_2 : decode cX1_dropEntriesOf 2 = .ok (.iload_n 2, 1) := by decide +kernel
theorem dX1_dropEntriesOf_3 : decode cX1_dropEntriesOf 3 = .ok (.bipush 32, 2) := by decide +kernel
theorem dX1_dropEntriesOf_5 : decode cX1_dropEntriesOf 5 = .ok (.if_icmp .ge 26, 3) := by decide +kernel
theorem dX1_dropEntriesOf_8 : decode cX1_dropEntriesOf 8 = .ok (.aload_n 0, 1) := by decide +kernel
theorem dX1_dropEntriesOf_9 : decode cX1_dropEntriesOf 9 = .ok (.getfield 9, 3) := by decide +kernel
theorem dX1_dropEntriesOf_12 : decode cX1_dropEntriesOf 12 = .ok (.iload_n 2, 1) := by decide +kernel
theorem dX1_dropEntriesOf_13 : decode cX1_dropEntriesOf 13 = .ok (.iaload, 1) := by decide +kernel
theorem dX1_dropEntriesOf_14 : decode cX1_dropEntriesOf 14 = .ok (.iload_n 1, 1) := by decide +kernel
theorem dX1_dropEntriesOf_15 : decode cX1_dropEntriesOf 15 = .ok (.if_icmp .ne 10, 3) := by decide +kernel
theorem dX1_dropEntriesOf_18 : decode cX1_dropEntriesOf 18 = .ok (.aload_n 0, 1) := by decide +kernel
theorem dX1_dropEntriesOf_19 : decode cX1_dropEntriesOf 19 = .ok (.getfield 9, 3) := by decide +kernel
theorem dX1_dropEntriesOf_22 : decode cX1_dropEntriesOf 22 = .ok (.iload_n 2, 1) := by decide +kernel
theorem dX1_dropEntriesOf_23 : decode cX1_dropEntriesOf 23 = .ok (.iconst (-1), 1) := by decide +kernel
theorem dX1_dropEntriesOf_24 : decode cX1_dropEntriesOf 24 = .ok (.iastore, 1) := by decide +kernel
theorem dX1_dropEntriesOf_25 : decode cX1_dropEntriesOf 25 = .ok (.iinc 2 1, 3) := by decide +kernel
theorem dX1_dropEntriesOf_28 : decode cX1_dropEntriesOf 28 = .ok (.goto (-26), 3) := by decide +kernel
theorem dX1_dropEntriesOf_31 : decode cX1_dropEntriesOf 31 = .ok (.return_, 1) := by decide +kernel
theorem dX1_addSingle_0 : decode cX1_addSingle 0 = .ok (.aload_n 0, 1) := by decide +kernel
theorem dX1_addSingle_1 : decode cX1_addSingle 1 = .ok (.getfield 37, 3) := by decide +kernel
theorem dX1_addSingle_4 : decode cX1_addSingle 4 = .ok (.istore 5, 2) := by decide +kernel
theorem dX1_addSingle_6 : decode cX1_addSingle 6 = .ok (.aload_n 0, 1) := by decide +kernel
theorem dX1_addSingle_7 : decode cX1_addSingle 7 = .ok (.dup, 1) := by decide +kernel
theorem dX1_addSingle_8 : decode cX1_addSingle 8 = .ok (.getfield 37, 3) := by decide +kernel
theorem dX1_addSingle_11 : decode cX1_addSingle 11 = .ok (.iconst 1, 1) := by decide +kernel
theorem dX1_addSingle_12 : decode cX1_addSingle 12 = .ok (.iadd, 1) := by decide +kernel
theorem dX1_addSingle_13 : decode cX1_addSingle 13 = .ok (.putfield 37, 3) := by decide +kernel
theorem dX1_addSingle_16 : decode cX1_addSingle 16 = .ok (.aload_n 0, 1) := by decide +kernel
theorem dX1_addSingle_17 : decode cX1_addSingle 17 = .ok (.aload_n 0, 1) := by decide +kernel
theorem dX1_addSingle_18 : decode cX1_addSingle 18 = .ok (.iload_n 3, 1) := by decide +kernel
theorem dX1_addSingle_19 : decode cX1_addSingle 19 = .ok (.invokevirtual 64, 3) := by decide +kernel
theorem dX1_addSingle_22 : decode cX1_addSingle 22 = .ok (.iload 5, 2) := by decide +kernel
theorem dX1_addSingle_24 : decode cX1_addSingle 24 = .ok (.iconst 0, 1) := by decide +kernel
theorem dX1_addSingle_25 : decode cX1_addSingle 25 = .ok (.iload_n 2, 1) := by decide +kernel
theorem dX1_addSingle_26 : decode cX1_addSingle 26 = .ok (.iload_n 1, 1) := by decide +kernel
theorem dX1_addSingle_27 : decode cX1_addSingle 27 = .ok (.iload_n 3, 1) := by decide +kernel
theorem dX1_addSingle_28 : decode cX1_addSingle 28 = .ok (.iload 4, 2) := by decide +kernel
theorem dX1_addSingle_30 : decode cX1_addSingle 30 = .ok (.invokevirtual 67, 3) := by decide +kernel
theorem dX1_addSingle_33 : decode cX1_addSingle 33 = .ok (.iload 5, 2) := by decide +kernel
theorem dX1_addSingle_35 : decode cX1_addSingle 35 = .ok (.ireturn, 1) := by decide +kernel
theorem dX1_addBlocks_0 : decode cX1_addBlocks 0 = .ok (.aload_n 0, 1) := by decide +kernel
theorem dX1_addBlocks_1 : decode cX1_addBlocks 1 = .ok (.getfield 37, 3) := by decide +kernel
theorem dX1_addBlocks_4 : decode cX1_addBlocks 4 = .ok (.istore 5, 2) := by decide +kernel
theorem dX1_addBlocks_6 : decode cX1_addBlocks 6 = .ok (.aload_n 0, 1) := by decide +kernel
theorem dX1_addBlocks_7 : decode cX1_addBlocks 7 = .ok (.dup, 1) := by decide +kernel
theorem dX1_addBlocks_8 : decode cX1_addBlocks 8 = .ok (.getfield 37, 3) := by decide +kernel
theorem dX1_addBlocks_11 : decode cX1_addBlocks 11 = .ok (.iconst 1, 1) := by decide +kernel
theorem dX1_addBlocks_12 : decode cX1_addBlocks 12 = .ok (.iadd, 1) := by decide +kernel
theorem dX1_addBlocks_13 : decode cX1_addBlocks 13 = .ok (.putfield 37, 3) := by decide +kernel
theorem dX1_addBlocks_16 : decode cX1_addBlocks 16 = .ok (.iload_n 1, 1) := by decide +kernel
theorem dX1_addBlocks_17 : decode cX1_addBlocks 17 = .ok (.istore 6, 2) := by decide +kernel
theorem dX1_addBlocks_19 : decode cX1_addBlocks 19 = .ok (.iconst 0, 1) := by decide +kernel
theorem dX1_addBlocks_20 : decode cX1_addBlocks 20 = .ok (.istore 7, 2) := by decide +kernel
theorem dX1_addBlocks_22 : decode cX1_addBlocks 22 = .ok (.iload 7, 2) := by decide +kernel
theorem dX1_addBlocks_24 : decode cX1_addBlocks 24 = .ok (.bipush 14, 2) := by decide +kernel
theorem dX1_addBlocks_26 : decode cX1_addBlocks 26 = .ok (.if_icmp .ge 54, 3) := by decide +kernel
theorem dX1_addBlocks_29 : decode cX1_addBlocks 29 = .ok (.iload 6, 2) := by decide +kernel
theorem dX1_addBlocks_31 : decode cX1_addBlocks 31 = .ok (.iload_n 2, 1) := by decide +kernel
theorem dX1_addBlocks_32 : decode cX1_addBlocks 32 = .ok (.if_icmp .gt 48, 3) := by decide +kernel
theorem dX1_addBlocks_35 : decode cX1_addBlocks 35 = .ok (.iload 6, 2) := by decide +kernel
theorem dX1_addBlocks_37 : decode cX1_addBlocks 37 = .ok (.iload_n 2, 1) := by decide +kernel
theorem dX1_addBlocks_38 : decode cX1_addBlocks 38 = .ok (.invokestatic 71, 3) := by decide +kernel
theorem dX1_addBlocks_41 : decode cX1_addBlocks 41 = .ok (.istore 8, 2) := by decide +kernel
theorem dX1_addBlocks_43 : decode cX1_addBlocks 43 = .ok (.aload_n 0, 1) := by decide +kernel
theorem dX1_addBlocks_44 : decode cX1_addBlocks 44 = .ok (.aload_n 0, 1) := by decide +kernel
theorem dX1_addBlocks_45 : decode cX1_addBlocks 45 = .ok (.iload_n 3, 1) := by decide +kernel
theorem dX1_addBlocks_46 : decode cX1_addBlocks 46 = .ok (.invokevirtual 64, 3) := by decide +kernel
theorem dX1_addBlocks_49 : decode cX1_addBlocks 49 = .ok (.iload 5, 2) := by decide +kernel
theorem dX1_addBlocks_51 : decode cX1_addBlocks 51 = .ok (.iload 7, 2) := by decide +kernel
theorem dX1_addBlocks_53 : decode cX1_addBlocks 53 = .ok (.sipush 256, 3) := by decide +kernel
theorem dX1_addBlocks_56 : decode cX1_addBlocks 56 = .ok (.iload 8, 2) := by decide +kernel
theorem dX1_addBlocks_58 : decode cX1_addBlocks 58 = .ok (.isub, 1) := by decide +kernel
theorem dX1_addBlocks_59 : decode cX1_addBlocks 59 = .ok (.iload 6, 2) := by decide +kernel
theorem dX1_addBlocks_61 : decode cX1_addBlocks 61 = .ok (.iload_n 3, 1) := by decide +kernel
theorem dX1_addBlocks_62 : decode cX1_addBlocks 62 = .ok (.iload 4, 2) := by decide +kernel
theorem dX1_addBlocks_64 : decode cX1_addBlocks 64 = .ok (.invokevirtual 67, 3) := by decide +kernel
theorem dX1_addBlocks_67 : decode cX1_addBlocks 67 = .ok (.iload 6, 2) := by decide +kernel
theorem dX1_addBlocks_69 : decode cX1_addBlocks 69 = .ok (.iload 8, 2) := by decide +kernel
theorem dX1_addBlocks_71 : decode cX1_addBlocks 71 = .ok (.iadd, 1) := by decide +kernel
theorem dX1_addBlocks_72 : decode cX1_addBlocks 72 = .ok (.istore 6, 2) := by decide +kernel
theorem dX1_addBlocks_74 : decode cX1_addBlocks 74 = .ok (.iinc 7 1, 3) := by decide +kernel
theorem dX1_addBlocks_77 : decode cX1_addBlocks 77 = .ok (.goto (-55), 3) := by decide +kernel
theorem dX1_addBlocks_80 : decode cX1_addBlocks 80 = .ok (.iload 5, 2) := by decide +kernel
theorem dX1_addBlocks_82 : decode cX1_addBlocks 82 = .ok (.ireturn, 1) := by decide +kernel
theorem dX1_fill_0 : decode cX1_fill 0 = .ok (.iload_n 1, 1) := by decide +kernel
theorem dX1_fill_1 : decode cX1_fill 1 = .ok (.invokestatic 49, 3) := by decide +kernel
theorem dX1_fill_4 : decode cX1_fill 4 = .ok (.ifCond .ne 4, 3) := by decide +kernel
theorem dX1_fill_7 : decode cX1_fill 7 = .ok (.return_, 1) := by decide +kernel
theorem dX1_fill_8 : decode cX1_fill 8 = .ok (.aload_n 0, 1) := by decide +kernel
theorem dX1_fill_9 : decode cX1_fill 9 = .ok (.getfield 9, 3) := by decide +kernel
theorem dX1_fill_12 : decode cX1_fill 12 = .ok (.iload_n 1, 1) := by decide +kernel
theorem dX1_fill_13 : decode cX1_fill 13 = .ok (.iload_n 2, 1) := by decide +kernel
theorem dX1_fill_14 : decode cX1_fill 14 = .ok (.iastore, 1) := by decide +kernel
theorem dX1_fill_15 : decode cX1_fill 15 = .ok (.aload_n 0, 1) := by decide +kernel
theorem dX1_fill_16 : decode cX1_fill 16 = .ok (.getfield 15, 3) := by decide +kernel
theorem dX1_fill_19 : decode cX1_fill 19 = .ok (.iload_n 1, 1) := by decide +kernel
theorem dX1_fill_20 : decode cX1_fill 20 = .ok (.iload_n 3, 1) := by decide +kernel
theorem dX1_fill_21 : decode cX1_fill 21 = .ok (.iastore, 1) := by decide +kernel
theorem dX1_fill_22 : decode cX1_fill 22 = .ok (.aload_n 0, 1) := by decide +kernel
theorem dX1_fill_23 : decode cX1_fill 23 = .ok (.getfield 18, 3) := by decide +kernel
theorem dX1_fill_26 : decode cX1_fill 26 = .ok (.iload_n 1, 1) := by decide +kernel
theorem dX1_fill_27 : decode cX1_fill 27 = .ok (.iload 4, 2) := by decide +kernel
theorem dX1_fill_29 : decode cX1_fill 29 = .ok (.iastore, 1) := by decide +kernel
theorem dX1_fill_30 : decode cX1_fill 30 = .ok (.aload_n 0, 1) := by decide +kernel
theorem dX1_fill_31 : decode cX1_fill 31 = .ok (.getfield 21, 3) := by decide +kernel
theorem dX1_fill_34 : decode cX1_fill 34 = .ok (.iload_n 1, 1) := by decide +kernel
theorem dX1_fill_35 : decode cX1_fill 35 = .ok (.iload 5, 2) := by decide +kernel
theorem dX1_fill_37 : decode cX1_fill 37 = .ok (.iload 4, 2) := by decide +kernel
theorem dX1_fill_39 : decode cX1_fill 39 = .ok (.iand, 1) := by decide +kernel
theorem dX1_fill_40 : decode cX1_fill 40 = .ok (.iastore, 1) := by decide +kernel
theorem dX1_fill_41 : decode cX1_fill 41 = .ok (.aload_n 0, 1) := by decide +kernel
theorem dX1_fill_42 : decode cX1_fill 42 = .ok (.getfield 24, 3) := by decide +kernel
theorem dX1_fill_45 : decode cX1_fill 45 = .ok (.iload_n 1, 1) := by decide +kernel
theorem dX1_fill_46 : decode cX1_fill 46 = .ok (.iload 6, 2) := by decide +kernel
theorem dX1_fill_48 : decode cX1_fill 48 = .ok (.iastore, 1) := by decide +kernel
theorem dX1_fill_49 : decode cX1_fill 49 = .ok (.aload_n 0, 1) := by decide +kernel
theorem dX1_fill_50 : decode cX1_fill 50 = .ok (.getfield 27, 3) := by decide +kernel
theorem dX1_fill_53 : decode cX1_fill 53 = .ok (.iload_n 1, 1) := by decide +kernel
theorem dX1_fill_54 : decode cX1_fill 54 = .ok (.iload 7, 2) := by decide +kernel
theorem dX1_fill_56 : decode cX1_fill 56 = .ok (.iastore, 1) := by decide +kernel
theorem dX1_fill_57 : decode cX1_fill 57 = .ok (.aload_n 0, 1) := by decide +kernel
theorem dX1_fill_58 : decode cX1_fill 58 = .ok (.getfield 30, 3) := by decide +kernel
theorem dX1_fill_61 : decode cX1_fill 61 = .ok (.iload_n 1, 1) := by decide +kernel
theorem dX1_fill_62 : decode cX1_fill 62 = .ok (.iconst 0, 1) := by decide +kernel
theorem dX1_fill_63 : decode cX1_fill 63 = .ok (.iastore, 1) := by decide +kernel
theorem dX1_fill_64 : decode cX1_fill 64 = .ok (.return_, 1) := by decide +kernel
theorem dX1_openSlot_0 : decode cX1_openSlot 0 = .ok (.aload_n 0, 1) := by decide +kernel
theorem dX1_openSlot_1 : decode cX1_openSlot 1 = .ok (.iload_n 1, 1) := by decide +kernel
theorem dX1_openSlot_2 : decode cX1_openSlot 2 = .ok (.invokevirtual 75, 3) := by decide +kernel
theorem dX1_openSlot_5 : decode cX1_openSlot 5 = .ok (.istore_n 2, 1) := by decide +kernel
theorem dX1_openSlot_6 : decode cX1_openSlot 6 = .ok (.aload_n 0, 1) := by decide +kernel
theorem dX1_openSlot_7 : decode cX1_openSlot 7 = .ok (.iload_n 1, 1) := by decide +kernel
theorem dX1_openSlot_8 : decode cX1_openSlot 8 = .ok (.invokevirtual 78, 3) := by decide +kernel
theorem dX1_openSlot_11 : decode cX1_openSlot 11 = .ok (.istore_n 3, 1) := by decide +kernel
theorem dX1_openSlot_12 : decode cX1_openSlot 12 = .ok (.iload_n 3, 1) := by decide +kernel
theorem dX1_openSlot_13 : decode cX1_openSlot 13 = .ok (.iload_n 2, 1) := by decide +kernel
theorem dX1_openSlot_14 : decode cX1_openSlot 14 = .ok (.isub, 1) := by decide +kernel
theorem dX1_openSlot_15 : decode cX1_openSlot 15 = .ok (.iconst 1, 1) := by decide +kernel
theorem dX1_openSlot_16 : decode cX1_openSlot 16 = .ok (.if_icmp .le 10, 3) := by decide +kernel
theorem dX1_openSlot_19 : decode cX1_openSlot 19 = .ok (.aload_n 0, 1) := by decide +kernel
theorem dX1_openSlot_20 : decode cX1_openSlot 20 = .ok (.iload_n 2, 1) := by decide +kernel
theorem dX1_openSlot_21 : decode cX1_openSlot 21 = .ok (.iload_n 3, 1) := by decide +kernel
theorem dX1_openSlot_22 : decode cX1_openSlot 22 = .ok (.invokevirtual 81, 3) := by decide +kernel
theorem dX1_openSlot_25 : decode cX1_openSlot 25 = .ok (.ireturn, 1) := by decide +kernel
theorem dX1_openSlot_26 : decode cX1_openSlot 26 = .ok (.aload_n 0, 1) := by decide +kernel
theorem dX1_openSlot_27 : decode cX1_openSlot 27 = .ok (.iload_n 3, 1) := by decide +kernel
theorem dX1_openSlot_28 : decode cX1_openSlot 28 = .ok (.invokevirtual 84, 3) := by decide +kernel
theorem dX1_openSlot_31 : decode cX1_openSlot 31 = .ok (.istore 4, 2) := by decide +kernel
theorem dX1_openSlot_33 : decode cX1_openSlot 33 = .ok (.aload_n 0, 1) := by decide +kernel
theorem dX1_openSlot_34 : decode cX1_openSlot 34 = .ok (.iload_n 2, 1) := by decide +kernel
theorem dX1_openSlot_35 : decode cX1_openSlot 35 = .ok (.invokevirtual 87, 3) := by decide +kernel
theorem dX1_openSlot_38 : decode cX1_openSlot 38 = .ok (.istore 5, 2) := by decide +kernel
theorem dX1_openSlot_40 : decode cX1_openSlot 40 = .ok (.iload 4, 2) := by decide +kernel
theorem dX1_openSlot_42 : decode cX1_openSlot 42 = .ok (.bipush 33, 2) := by decide +kernel
theorem dX1_openSlot_44 : decode cX1_openSlot 44 = .ok (.if_icmp .ne 12, 3) := by decide +kernel
theorem dX1_openSlot_47 : decode cX1_openSlot 47 = .ok (.iload 5, 2) := by decide +kernel
theorem dX1_openSlot_49 : decode cX1_openSlot 49 = .ok (.bipush 33, 2) := by decide +kernel
theorem dX1_openSlot_51 : decode cX1_openSlot 51 = .ok (.if_icmp .ne 5, 3) := by decide +kernel
theorem dX1_openSlot_54 : decode cX1_openSlot 54 = .ok (.iconst (-1), 1) := by decide +kernel
theorem dX1_openSlot_55 : decode cX1_openSlot 55 = .ok (.ireturn, 1) := by decide +kernel
theorem dX1_openSlot_56 : decode cX1_openSlot 56 = .ok (.iload 4, 2) := by decide +kernel
theorem dX1_openSlot_58 : decode cX1_openSlot 58 = .ok (.iload 5, 2) := by decide +kernel
theorem dX1_openSlot_60 : decode cX1_openSlot 60 = .ok (.if_icmp .gt 12, 3) := by decide +kernel
theorem dX1_openSlot_63 : decode cX1_openSlot 63 = .ok (.aload_n 0, 1) := by decide +kernel
theorem dX1_openSlot_64 : decode cX1_openSlot 64 = .ok (.iload_n 3, 1) := by decide +kernel
theorem dX1_openSlot_65 : decode cX1_openSlot 65 = .ok (.iload 4, 2) := by decide +kernel
theorem dX1_openSlot_67 : decode cX1_openSlot 67 = .ok (.invokevirtual 90, 3) := by decide +kernel
theorem dX1_openSlot_70 : decode cX1_openSlot 70 = .ok (.iload_n 3, 1) := by decide +kernel
theorem dX1_openSlot_71 : decode cX1_openSlot 71 = .ok (.ireturn, 1) := by decide +kernel
theorem dX1_openSlot_72 : decode cX1_openSlot 72 = .ok (.aload_n 0, 1) := by decide +kernel
theorem dX1_openSlot_73 : decode cX1_openSlot 73 = .ok (.iload_n 2, 1) := by decide +kernel
theorem dX1_openSlot_74 : decode cX1_openSlot 74 = .ok (.iload 5, 2) := by decide +kernel
theorem dX1_openSlot_76 : decode cX1_openSlot 76 = .ok (.invokevirtual 94, 3) := by decide +kernel
theorem dX1_openSlot_79 : decode cX1_openSlot 79 = .ok (.iload_n 2, 1) := by decide +kernel
theorem dX1_openSlot_80 : decode cX1_openSlot 80 = .ok (.ireturn, 1) := by decide +kernel
theorem dX1_movesFor_0 : decode cX1_movesFor 0 = .ok (.aload_n 0, 1) := by decide +kernel
theorem dX1_movesFor_1 : decode cX1_movesFor 1 = .ok (.iload_n 1, 1) := by decide +kernel
theorem dX1_movesFor_2 : decode cX1_movesFor 2 = .ok (.invokevirtual 75, 3) := by decide +kernel
theorem dX1_movesFor_5 : decode cX1_movesFor 5 = .ok (.istore_n 2, 1) := by decide +kernel
theorem dX1_movesFor_6 : decode cX1_movesFor 6 = .ok (.aload_n 0, 1) := by decide +kernel
theorem dX1_movesFor_7 : decode cX1_movesFor 7 = .ok (.iload_n 1, 1) := by decide +kernel
theorem dX1_movesFor_8 : decode cX1_movesFor 8 = .ok (.invokevirtual 78, 3) := by decide +kernel
theorem dX1_movesFor_11 : decode cX1_movesFor 11 = .ok (.istore_n 3, 1) := by decide +kernel
theorem dX1_movesFor_12 : decode cX1_movesFor 12 = .ok (.iload_n 3, 1) := by decide +kernel
theorem dX1_movesFor_13 : decode cX1_movesFor 13 = .ok (.iload_n 2, 1) := by decide +kernel
theorem dX1_movesFor_14 : decode cX1_movesFor 14 = .ok (.isub, 1) := by decide +kernel
theorem dX1_movesFor_15 : decode cX1_movesFor 15 = .ok (.iconst 1, 1) := by decide +kernel
theorem dX1_movesFor_16 : decode cX1_movesFor 16 = .ok (.if_icmp .le 5, 3) := by decide +kernel
theorem dX1_movesFor_19 : decode cX1_movesFor 19 = .ok (.iconst 0, 1) := by decide +kernel
theorem dX1_movesFor_20 : decode cX1_movesFor 20 = .ok (.ireturn, 1) := by decide +kernel
theorem dX1_movesFor_21 : decode cX1_movesFor 21 = .ok (.aload_n 0, 1) := by decide +kernel
theorem dX1_movesFor_22 : decode cX1_movesFor 22 = .ok (.iload_n 3, 1) := by decide +kernel
theorem dX1_movesFor_23 : decode cX1_movesFor 23 = .ok (.invokevirtual 84, 3) := by decide +kernel
theorem dX1_movesFor_26 : decode cX1_movesFor 26 = .ok (.aload_n 0, 1) := by decide +kernel
theorem dX1_movesFor_27 : decode cX1_movesFor 27 = .ok (.iload_n 2, 1) := by decide +kernel
theorem dX1_movesFor_28 : decode cX1_movesFor 28 = .ok (.invokevirtual 87, 3) := by decide +kernel
theorem dX1_movesFor_31 : decode cX1_movesFor 31 = .ok (.invokestatic 97, 3) := by decide +kernel
theorem dX1_movesFor_34 : decode cX1_movesFor 34 = .ok (.ireturn, 1) := by decide +kernel
theorem dX1_lastSlotUpTo_0 : decode cX1_lastSlotUpTo 0 = .ok (.bipush 31, 2) := by decide +kernel
theorem dX1_lastSlotUpTo_2 : decode cX1_lastSlotUpTo 2 = .ok (.istore_n 2, 1) := by decide +kernel
theorem dX1_lastSlotUpTo_3 : decode cX1_lastSlotUpTo 3 = .ok (.iload_n 2, 1) := by decide +kernel
theorem dX1_lastSlotUpTo_4 : decode cX1_lastSlotUpTo 4 = .ok (.ifCond .lt 29, 3) := by decide +kernel
theorem dX1_lastSlotUpTo_7 : decode cX1_lastSlotUpTo 7 = .ok (.aload_n 0, 1) := by decide +kernel
theorem dX1_lastSlotUpTo_8 : decode cX1_lastSlotUpTo 8 = .ok (.iload_n 2, 1) := by decide +kernel
theorem dX1_lastSlotUpTo_9 : decode cX1_lastSlotUpTo 9 = .ok (.invokevirtual 53, 3) := by decide +kernel
theorem dX1_lastSlotUpTo_12 : decode cX1_lastSlotUpTo 12 = .ok (.ifCond .eq 15, 3) := by decide +kernel
theorem dX1_lastSlotUpTo_15 : decode cX1_lastSlotUpTo 15 = .ok (.aload_n 0, 1) := by decide +kernel
theorem dX1_lastSlotUpTo_16 : decode cX1_lastSlotUpTo 16 = .ok (.getfield 24, 3) := by decide +kernel
theorem dX1_lastSlotUpTo_19 : decode cX1_lastSlotUpTo 19 = .ok (.iload_n 2, 1) := by decide +kernel
theorem dX1_lastSlotUpTo_20 : decode cX1_lastSlotUpTo 20 = .ok (.iaload, 1) := by decide +kernel
theorem dX1_lastSlotUpTo_21 : decode cX1_lastSlotUpTo 21 = .ok (.iload_n 1, 1) := by decide +kernel
theorem dX1_lastSlotUpTo_22 : decode cX1_lastSlotUpTo 22 = .ok (.if_icmp .gt 5, 3) := by decide +kernel
theorem dX1_lastSlotUpTo_25 : decode cX1_lastSlotUpTo 25 = .ok (.iload_n 2, 1) := by decide +kernel
theorem dX1_lastSlotUpTo_26 : decode cX1_lastSlotUpTo 26 = .ok (.ireturn, 1) := by decide +kernel
theorem dX1_lastSlotUpTo_27 : decode cX1_lastSlotUpTo 27 = .ok (.iinc 2 (-1), 3) := by decide +kernel
theorem dX1_lastSlotUpTo_30 : decode cX1_lastSlotUpTo 30 = .ok (.goto (-27), 3) := by decide +kernel
theorem dX1_lastSlotUpTo_33 : decode cX1_lastSlotUpTo 33 = .ok (.iconst (-1), 1) := by decide +kernel
theorem dX1_lastSlotUpTo_34 : decode cX1_lastSlotUpTo 34 = .ok (.ireturn, 1) := by decide +kernel
theorem dX1_firstSlotBeyond_0 : decode cX1_firstSlotBeyond 0 = .ok (.iconst 0, 1) := by decide +kernel
theorem dX1_firstSlotBeyond_1 : decode cX1_firstSlotBeyond 1 = .ok (.istore_n 2, 1) := by decide +kernel
theorem dX1_firstSlotBeyond_2 : decode cX1_firstSlotBeyond 2 = .ok (.iload_n 2, 1) := by decide +kernel
theorem dX1_firstSlotBeyond_3 : decode cX1_firstSlotBeyond 3 = .ok (.bipush 32, 2) := by decide +kernel
theorem dX1_firstSlotBeyond_5 : decode cX1_firstSlotBeyond 5 = .ok (.if_icmp .ge 29, 3) := by decide +kernel
theorem dX1_firstSlotBeyond_8 : decode cX1_firstSlotBeyond 8 = .ok (.aload_n 0, 1) := by decide +kernel
theorem dX1_firstSlotBeyond_9 : decode cX1_firstSlotBeyond 9 = .ok (.iload_n 2, 1) := by decide +kernel
theorem dX1_firstSlotBeyond_10 : decode cX1_firstSlotBeyond 10 = .ok (.invokevirtual 53, 3) := by decide +kernel
theorem dX1_firstSlotBeyond_13 : decode cX1_firstSlotBeyond 13 = .ok (.ifCond .eq 15, 3) := by decide +kernel
theorem dX1_firstSlotBeyond_16 : decode cX1_firstSlotBeyond 16 = .ok (.aload_n 0, 1) := by decide +kernel
theorem dX1_firstSlotBeyond_17 : decode cX1_firstSlotBeyond 17 = .ok (.getfield 24, 3) := by decide +kernel
theorem dX1_firstSlotBeyond_20 : decode cX1_firstSlotBeyond 20 = .ok (.iload_n 2, 1) := by decide +kernel
theorem dX1_firstSlotBeyond_21 : decode cX1_firstSlotBeyond 21 = .ok (.iaload, 1) := by decide +kernel
theorem dX1_firstSlotBeyond_22 : decode cX1_firstSlotBeyond 22 = .ok (.iload_n 1, 1) := by decide +kernel
theorem dX1_firstSlotBeyond_23 : decode cX1_firstSlotBeyond 23 = .ok (.if_icmp .le 5, 3) := by decide +kernel
theorem dX1_firstSlotBeyond_26 : decode cX1_firstSlotBeyond 26 = .ok (.iload_n 2, 1) := by decide +kernel
theorem dX1_firstSlotBeyond_27 : decode cX1_firstSlotBeyond 27 = .ok (.ireturn, 1) := by decide +kernel
theorem dX1_firstSlotBeyond_28 : decode cX1_firstSlotBeyond 28 = .ok (.iinc 2 1, 3) := by decide +kernel
theorem dX1_firstSlotBeyond_31 : decode cX1_firstSlotBeyond 31 = .ok (.goto (-29), 3) := by decide +kernel
theorem dX1_firstSlotBeyond_34 : decode cX1_firstSlotBeyond 34 = .ok (.bipush 32, 2) := by decide +kernel
theorem dX1_firstSlotBeyond_36 : decode cX1_firstSlotBeyond 36 = .ok (.ireturn, 1) := by decide +kernel
theorem dX1_placeBetween_0 : decode cX1_placeBetween 0 = .ok (.aload_n 0, 1) := by decide +kernel
theorem dX1_placeBetween_1 : decode cX1_placeBetween 1 = .ok (.getfield 33, 3) := by decide +kernel
theorem dX1_placeBetween_4 : decode cX1_placeBetween 4 = .ok (.ifCond .ne 7, 3) := by decide +kernel
theorem dX1_placeBetween_7 : decode cX1_placeBetween 7 = .ok (.iload_n 1, 1) := by decide +kernel
theorem dX1_placeBetween_8 : decode cX1_placeBetween 8 = .ok (.iconst 1, 1) := by decide +kernel
theorem dX1_placeBetween_9 : decode cX1_placeBetween 9 = .ok (.iadd, 1) := by decide +kernel
theorem dX1_placeBetween_10 : decode cX1_placeBetween 10 = .ok (.ireturn, 1) := by decide +kernel
theorem dX1_placeBetween_11 : decode cX1_placeBetween 11 = .ok (.aload_n 0, 1) := by decide +kernel
theorem dX1_placeBetween_12 : decode cX1_placeBetween 12 = .ok (.getfield 33, 3) := by decide +kernel
theorem dX1_placeBetween_15 : decode cX1_placeBetween 15 = .ok (.iconst 1, 1) := by decide +kernel
theorem dX1_placeBetween_16 : decode cX1_placeBetween 16 = .ok (.if_icmp .ne 11, 3) := by decide +kernel
theorem dX1_placeBetween_19 : decode cX1_placeBetween 19 = .ok (.iload_n 1, 1) := by decide +kernel
theorem dX1_placeBetween_20 : decode cX1_placeBetween 20 = .ok (.iload_n 2, 1) := by decide +kernel
theorem dX1_placeBetween_21 : decode cX1_placeBetween 21 = .ok (.iadd, 1) := by decide +kernel
theorem dX1_placeBetween_22 : decode cX1_placeBetween 22 = .ok (.iconst 2, 1) := by decide +kernel
theorem dX1_placeBetween_23 : decode cX1_placeBetween 23 = .ok (.idiv, 1) := by decide +kernel
theorem dX1_placeBetween_24 : decode cX1_placeBetween 24 = .ok (.goto 6, 3) := by decide +kernel
theorem dX1_placeBetween_27 : decode cX1_placeBetween 27 = .ok (.iload_n 2, 1) := by decide +kernel
theorem dX1_placeBetween_28 : decode cX1_placeBetween 28 = .ok (.iconst 1, 1) := by decide +kernel
theorem dX1_placeBetween_29 : decode cX1_placeBetween 29 = .ok (.isub, 1) := by decide +kernel
theorem dX1_placeBetween_30 : decode cX1_placeBetween 30 = .ok (.ireturn, 1) := by decide +kernel
theorem dX1_movesUpFrom_0 : decode cX1_movesUpFrom 0 = .ok (.iload_n 1, 1) := by decide +kernel
theorem dX1_movesUpFrom_1 : decode cX1_movesUpFrom 1 = .ok (.istore_n 2, 1) := by decide +kernel
theorem dX1_movesUpFrom_2 : decode cX1_movesUpFrom 2 = .ok (.iload_n 2, 1) := by decide +kernel
theorem dX1_movesUpFrom_3 : decode cX1_movesUpFrom 3 = .ok (.bipush 32, 2) := by decide +kernel
theorem dX1_movesUpFrom_5 : decode cX1_movesUpFrom 5 = .ok (.if_icmp .ge 21, 3) := by decide +kernel
theorem dX1_movesUpFrom_8 : decode cX1_movesUpFrom 8 = .ok (.aload_n 0, 1) := by decide +kernel
theorem dX1_movesUpFrom_9 : decode cX1_movesUpFrom 9 = .ok (.iload_n 2, 1) := by decide +kernel
theorem dX1_movesUpFrom_10 : decode cX1_movesUpFrom 10 = .ok (.invokevirtual 53, 3) := by decide +kernel
theorem dX1_movesUpFrom_13 : decode cX1_movesUpFrom 13 = .ok (.ifCond .ne 7, 3) := by decide +kernel
theorem dX1_movesUpFrom_16 : decode cX1_movesUpFrom 16 = .ok (.iload_n 2, 1) := by decide +kernel
theorem dX1_movesUpFrom_17 : decode cX1_movesUpFrom 17 = .ok (.iload_n 1, 1) := by decide +kernel
theorem dX1_movesUpFrom_18 : decode cX1_movesUpFrom 18 = .ok (.isub, 1) := by decide +kernel
theorem dX1_movesUpFrom_19 : decode cX1_movesUpFrom 19 = .ok (.ireturn, 1) := by decide +kernel
theorem dX1_movesUpFrom_20 : decode cX1_movesUpFrom 20 = .ok (.iinc 2 1, 3) := by decide +kernel
theorem dX1_movesUpFrom_23 : decode cX1_movesUpFrom 23 = .ok (.goto (-21), 3) := by decide +kernel
theorem dX1_movesUpFrom_26 : decode cX1_movesUpFrom 26 = .ok (.bipush 33, 2) := by decide +kernel
theorem dX1_movesUpFrom_28 : decode cX1_movesUpFrom 28 = .ok (.ireturn, 1) := by decide +kernel
theorem dX1_movesDownFrom_0 : decode cX1_movesDownFrom 0 = .ok (.iload_n 1, 1) := by decide +kernel
theorem dX1_movesDownFrom_1 : decode cX1_movesDownFrom 1 = .ok (.istore_n 2, 1) := by decide +kernel
theorem dX1_movesDownFrom_2 : decode cX1_movesDownFrom 2 = .ok (.iload_n 2, 1) := by decide +kernel
theorem dX1_movesDownFrom_3 : decode cX1_movesDownFrom 3 = .ok (.ifCond .lt 21, 3) := by decide +kernel
theorem dX1_movesDownFrom_6 : decode cX1_movesDownFrom 6 = .ok (.aload_n 0, 1) := by decide +kernel
theorem dX1_movesDownFrom_7 : decode cX1_movesDownFrom 7 = .ok (.iload_n 2, 1) := by decide +kernel
theorem dX1_movesDownFrom_8 : decode cX1_movesDownFrom 8 = .ok (.invokevirtual 53, 3) := by decide +kernel
theorem dX1_movesDownFrom_11 : decode cX1_movesDownFrom 11 = .ok (.ifCond .ne 7, 3) := by decide +kernel
theorem dX1_movesDownFrom_14 : decode cX1_movesDownFrom 14 = .ok (.iload_n 1, 1) := by decide +kernel
theorem dX1_movesDownFrom_15 : decode cX1_movesDownFrom 15 = .ok (.iload_n 2, 1) := by decide +kernel
theorem dX1_movesDownFrom_16 : decode cX1_movesDownFrom 16 = .ok (.isub, 1) := by decide +kernel
theorem dX1_movesDownFrom_17 : decode cX1_movesDownFrom 17 = .ok (.ireturn, 1) := by decide +kernel
theorem dX1_movesDownFrom_18 : decode cX1_movesDownFrom 18 = .ok (.iinc 2 (-1), 3) := by decide +kernel
theorem dX1_movesDownFrom_21 : decode cX1_movesDownFrom 21 = .ok (.goto (-19), 3) := by decide +kernel
theorem dX1_movesDownFrom_24 : decode cX1_movesDownFrom 24 = .ok (.bipush 33, 2) := by decide +kernel
theorem dX1_movesDownFrom_26 : decode cX1_movesDownFrom 26 = .ok (.ireturn, 1) := by decide +kernel
theorem dX1_moveUp_0 : decode cX1_moveUp 0 = .ok (.iload_n 1, 1) := by decide +kernel
theorem dX1_moveUp_1 : decode cX1_moveUp 1 = .ok (.iload_n 2, 1) := by decide +kernel
theorem dX1_moveUp_2 : decode cX1_moveUp 2 = .ok (.iadd, 1) := by decide +kernel
theorem dX1_moveUp_3 : decode cX1_moveUp 3 = .ok (.istore_n 3, 1) := by decide +kernel
theorem dX1_moveUp_4 : decode cX1_moveUp 4 = .ok (.iload_n 3, 1) := by decide +kernel
theorem dX1_moveUp_5 : decode cX1_moveUp 5 = .ok (.iload_n 1, 1) := by decide +kernel
theorem dX1_moveUp_6 : decode cX1_moveUp 6 = .ok (.if_icmp .le 17, 3) := by decide +kernel
theorem dX1_moveUp_9 : decode cX1_moveUp 9 = .ok (.aload_n 0, 1) := by decide +kernel
theorem dX1_moveUp_10 : decode cX1_moveUp 10 = .ok (.iload_n 3, 1) := by decide +kernel
theorem dX1_moveUp_11 : decode cX1_moveUp 11 = .ok (.iconst 1, 1) := by decide +kernel
theorem dX1_moveUp_12 : decode cX1_moveUp 12 = .ok (.isub, 1) := by decide +kernel
theorem dX1_moveUp_13 : decode cX1_moveUp 13 = .ok (.iload_n 3, 1) := by decide +kernel
theorem dX1_moveUp_14 : decode cX1_moveUp 14 = .ok (.invokevirtual 102, 3) := by decide +kernel
theorem dX1_moveUp_17 : decode cX1_moveUp 17 = .ok (.iinc 3 (-1), 3) := by decide +kernel
theorem dX1_moveUp_20 : decode cX1_moveUp 20 = .ok (.goto (-16), 3) := by decide +kernel
theorem dX1_moveUp_23 : decode cX1_moveUp 23 = .ok (.aload_n 0, 1) := by decide +kernel
theorem dX1_moveUp_24 : decode cX1_moveUp 24 = .ok (.dup, 1) := by decide +kernel
theorem dX1_moveUp_25 : decode cX1_moveUp 25 = .ok (.getfield 40, 3) := by decide +kernel
theorem dX1_moveUp_28 : decode cX1_moveUp 28 = .ok (.iload_n 2, 1) := by decide +kernel
theorem dX1_moveUp_29 : decode cX1_moveUp 29 = .ok (.iadd, 1) := by decide +kernel
theorem dX1_moveUp_30 : decode cX1_moveUp 30 = .ok (.putfield 40, 3) := by decide +kernel
theorem dX1_moveUp_33 : decode cX1_moveUp 33 = .ok (.return_, 1) := by decide +kernel
theorem dX1_moveDown_0 : decode cX1_moveDown 0 = .ok (.iload_n 1, 1) := by decide +kernel
theorem dX1_moveDown_1 : decode cX1_moveDown 1 = .ok (.iload_n 2, 1) := by decide +kernel
theorem dX1_moveDown_2 : decode cX1_moveDown 2 = .ok (.isub, 1) := by decide +kernel
theorem dX1_moveDown_3 : decode cX1_moveDown 3 = .ok (.istore_n 3, 1) := by decide +kernel
theorem dX1_moveDown_4 : decode cX1_moveDown 4 = .ok (.iload_n 3, 1) := by decide +kernel
theorem dX1_moveDown_5 : decode cX1_moveDown 5 = .ok (.iload_n 1, 1) := by decide +kernel
theorem dX1_moveDown_6 : decode cX1_moveDown 6 = .ok (.if_icmp .ge 17, 3) := by decide +kernel
theorem dX1_moveDown_9 : decode cX1_moveDown 9 = .ok (.aload_n 0, 1) := by decide +kernel
theorem dX1_moveDown_10 : decode cX1_moveDown 10 = .ok (.iload_n 3, 1) := by decide +kernel
theorem dX1_moveDown_11 : decode cX1_moveDown 11 = .ok (.iconst 1, 1) := by decide +kernel
theorem dX1_moveDown_12 : decode cX1_moveDown 12 = .ok (.iadd, 1) := by decide +kernel
theorem dX1_moveDown_13 : decode cX1_moveDown 13 = .ok (.iload_n 3, 1) := by decide +kernel
theorem dX1_moveDown_14 : decode cX1_moveDown 14 = .ok (.invokevirtual 102, 3) := by decide +kernel
theorem dX1_moveDown_17 : decode cX1_moveDown 17 = .ok (.iinc 3 1, 3) := by decide +kernel
theorem dX1_moveDown_20 : decode cX1_moveDown 20 = .ok (.goto (-16), 3) := by decide +kernel
theorem dX1_moveDown_23 : decode cX1_moveDown 23 = .ok (.aload_n 0, 1) := by decide +kernel
theorem dX1_moveDown_24 : decode cX1_moveDown 24 = .ok (.dup, 1) := by decide +kernel
theorem dX1_moveDown_25 : decode cX1_moveDown 25 = .ok (.getfield 40, 3) := by decide +kernel
theorem dX1_moveDown_28 : decode cX1_moveDown 28 = .ok (.iload_n 2, 1) := by decide +kernel
theorem dX1_moveDown_29 : decode cX1_moveDown 29 = .ok (.iadd, 1) := by decide +kernel
theorem dX1_moveDown_30 : decode cX1_moveDown 30 = .ok (.putfield 40, 3) := by decide +kernel
theorem dX1_moveDown_33 : decode cX1_moveDown 33 = .ok (.return_, 1) := by decide +kernel
theorem dX1_moveEntry_0 : decode cX1_moveEntry 0 = .ok (.iload_n 1, 1) := by decide +kernel
theorem dX1_moveEntry_1 : decode cX1_moveEntry 1 = .ok (.iload_n 2, 1) := by decide +kernel
theorem dX1_moveEntry_2 : decode cX1_moveEntry 2 = .ok (.if_icmp .eq 17, 3) := by decide +kernel
theorem dX1_moveEntry_5 : decode cX1_moveEntry 5 = .ok (.iload_n 1, 1) := by decide +kernel
theorem dX1_moveEntry_6 : decode cX1_moveEntry 6 = .ok (.invokestatic 49, 3) := by decide +kernel
theorem dX1_moveEntry_9 : decode cX1_moveEntry 9 = .ok (.ifCond .eq 10, 3) := by decide +kernel
theorem dX1_moveEntry_12 : decode cX1_moveEntry 12 = .ok (.iload_n 2, 1) := by decide +kernel
theorem dX1_moveEntry_13 : decode cX1_moveEntry 13 = .ok (.invokestatic 49, 3) := by decide +kernel
theorem dX1_moveEntry_16 : decode cX1_moveEntry 16 = .ok (.ifCond .ne 4, 3) := by decide +kernel
theorem dX1_moveEntry_19 : decode cX1_moveEntry 19 = .ok (.return_, 1) := by decide +kernel
theorem dX1_moveEntry_20 : decode cX1_moveEntry 20 = .ok (.aload_n 0, 1) := by decide +kernel
theorem dX1_moveEntry_21 : decode cX1_moveEntry 21 = .ok (.getfield 9, 3) := by decide +kernel
theorem dX1_moveEntry_24 : decode cX1_moveEntry 24 = .ok (.iload_n 2, 1) := by decide +kernel
theorem dX1_moveEntry_25 : decode cX1_moveEntry 25 = .ok (.aload_n 0, 1) := by decide +kernel
theorem dX1_moveEntry_26 : decode cX1_moveEntry 26 = .ok (.getfield 9, 3) := by decide +kernel
theorem dX1_moveEntry_29 : decode cX1_moveEntry 29 = .ok (.iload_n 1, 1) := by decide +kernel
theorem dX1_moveEntry_30 : decode cX1_moveEntry 30 = .ok (.iaload, 1) := by decide +kernel
theorem dX1_moveEntry_31 : decode cX1_moveEntry 31 = .ok (.iastore, 1) := by decide +kernel
theorem dX1_moveEntry_32 : decode cX1_moveEntry 32 = .ok (.aload_n 0, 1) := by decide +kernel
theorem dX1_moveEntry_33 : decode cX1_moveEntry 33 = .ok (.getfield 15, 3) := by decide +kernel
theorem dX1_moveEntry_36 : decode cX1_moveEntry 36 = .ok (.iload_n 2, 1) := by decide +kernel
theorem dX1_moveEntry_37 : decode cX1_moveEntry 37 = .ok (.aload_n 0, 1) := by decide +kernel
theorem dX1_moveEntry_38 : decode cX1_moveEntry 38 = .ok (.getfield 15, 3) := by decide +kernel
theorem dX1_moveEntry_41 : decode cX1_moveEntry 41 = .ok (.iload_n 1, 1) := by decide +kernel
theorem dX1_moveEntry_42 : decode cX1_moveEntry 42 = .ok (.iaload, 1) := by decide +kernel
theorem dX1_moveEntry_43 : decode cX1_moveEntry 43 = .ok (.iastore, 1) := by decide +kernel
theorem dX1_moveEntry_44 : decode cX1_moveEntry 44 = .ok (.aload_n 0, 1) := by decide +kernel
theorem dX1_moveEntry_45 : decode cX1_moveEntry 45 = .ok (.getfield 18, 3) := by decide +kernel
theorem dX1_moveEntry_48 : decode cX1_moveEntry 48 = .ok (.iload_n 2, 1) := by decide +kernel
theorem dX1_moveEntry_49 : decode cX1_moveEntry 49 = .ok (.aload_n 0, 1) := by decide +kernel
theorem dX1_moveEntry_50 : decode cX1_moveEntry 50 = .ok (.getfield 18, 3) := by decide +kernel
theorem dX1_moveEntry_53 : decode cX1_moveEntry 53 = .ok (.iload_n 1, 1) := by decide +kernel
theorem dX1_moveEntry_54 : decode cX1_moveEntry 54 = .ok (.iaload, 1) := by decide +kernel
theorem dX1_moveEntry_55 : decode cX1_moveEntry 55 = .ok (.iastore, 1) := by decide +kernel
theorem dX1_moveEntry_56 : decode cX1_moveEntry 56 = .ok (.aload_n 0, 1) := by decide +kernel
theorem dX1_moveEntry_57 : decode cX1_moveEntry 57 = .ok (.getfield 21, 3) := by decide +kernel
theorem dX1_moveEntry_60 : decode cX1_moveEntry 60 = .ok (.iload_n 2, 1) := by decide +kernel
theorem dX1_moveEntry_61 : decode cX1_moveEntry 61 = .ok (.aload_n 0, 1) := by decide +kernel
theorem dX1_moveEntry_62 : decode cX1_moveEntry 62 = .ok (.getfield 21, 3) := by decide +kernel
theorem dX1_moveEntry_65 : decode cX1_moveEntry 65 = .ok (.iload_n 1, 1) := by decide +kernel
theorem dX1_moveEntry_66 : decode cX1_moveEntry 66 = .ok (.iaload, 1) := by decide +kernel
theorem dX1_moveEntry_67 : decode cX1_moveEntry 67 = .ok (.iastore, 1) := by decide +kernel
theorem dX1_moveEntry_68 : decode cX1_moveEntry 68 = .ok (.aload_n 0, 1) := by decide +kernel
theorem dX1_moveEntry_69 : decode cX1_moveEntry 69 = .ok (.getfield 24, 3) := by decide +kernel
theorem dX1_moveEntry_72 : decode cX1_moveEntry 72 = .ok (.iload_n 2, 1) := by decide +kernel
theorem dX1_moveEntry_73 : decode cX1_moveEntry 73 = .ok (.aload_n 0, 1) := by decide +kernel
theorem dX1_moveEntry_74 : decode cX1_moveEntry 74 = .ok (.getfield 24, 3) := by decide +kernel
theorem dX1_moveEntry_77 : decode cX1_moveEntry 77 = .ok (.iload_n 1, 1) := by decide +kernel
theorem dX1_moveEntry_78 : decode cX1_moveEntry 78 = .ok (.iaload, 1) := by decide +kernel
theorem dX1_moveEntry_79 : decode cX1_moveEntry 79 = .ok (.iastore, 1) := by decide +kernel
theorem dX1_moveEntry_80 : decode cX1_moveEntry 80 = .ok (.aload_n 0, 1) := by decide +kernel
theorem dX1_moveEntry_81 : decode cX1_moveEntry 81 = .ok (.getfield 27, 3) := by decide +kernel
theorem dX1_moveEntry_84 : decode cX1_moveEntry 84 = .ok (.iload_n 2, 1) := by decide +kernel
theorem dX1_moveEntry_85 : decode cX1_moveEntry 85 = .ok (.aload_n 0, 1) := by decide +kernel
theorem dX1_moveEntry_86 : decode cX1_moveEntry 86 = .ok (.getfield 27, 3) := by decide +kernel
theorem dX1_moveEntry_89 : decode cX1_moveEntry 89 = .ok (.iload_n 1, 1) := by decide +kernel
theorem dX1_moveEntry_90 : decode cX1_moveEntry 90 = .ok (.iaload, 1) := by decide +kernel
theorem dX1_moveEntry_91 : decode cX1_moveEntry 91 = .ok (.iastore, 1) := by decide +kernel
theorem dX1_moveEntry_92 : decode cX1_moveEntry 92 = .ok (.aload_n 0, 1) := by decide +kernel
theorem dX1_moveEntry_93 : decode cX1_moveEntry 93 = .ok (.getfield 30, 3) := by decide +kernel
theorem dX1_moveEntry_96 : decode cX1_moveEntry 96 = .ok (.iload_n 2, 1) := by decide +kernel
theorem dX1_moveEntry_97 : decode cX1_moveEntry 97 = .ok (.aload_n 0, 1) := by decide +kernel
theorem dX1_moveEntry_98 : decode cX1_moveEntry 98 = .ok (.getfield 30, 3) := by decide +kernel
theorem dX1_moveEntry_101 : decode cX1_moveEntry 101 = .ok (.iload_n 1, 1) := by decide +kernel
theorem dX1_moveEntry_102 : decode cX1_moveEntry 102 = .ok (.iaload, 1) := by decide +kernel
theorem dX1_moveEntry_103 : decode cX1_moveEntry 103 = .ok (.iastore, 1) := by decide +kernel
theorem dX1_moveEntry_104 : decode cX1_moveEntry 104 = .ok (.aload_n 0, 1) := by decide +kernel
theorem dX1_moveEntry_105 : decode cX1_moveEntry 105 = .ok (.getfield 9, 3) := by decide +kernel
theorem dX1_moveEntry_108 : decode cX1_moveEntry 108 = .ok (.iload_n 1, 1) := by decide +kernel
theorem dX1_moveEntry_109 : decode cX1_moveEntry 109 = .ok (.iconst (-1), 1) := by decide +kernel
theorem dX1_moveEntry_110 : decode cX1_moveEntry 110 = .ok (.iastore, 1) := by decide +kernel
theorem dX1_moveEntry_111 : decode cX1_moveEntry 111 = .ok (.return_, 1) := by decide +kernel
theorem dX1_firstSlotOfShare_0 : decode cX1_firstSlotOfShare 0 = .ok (.iload_n 1, 1) := by decide +kernel
theorem dX1_firstSlotOfShare_1 : decode cX1_firstSlotOfShare 1 = .ok (.ifCond .le 12, 3) := by decide +kernel
theorem dX1_firstSlotOfShare_4 : decode cX1_firstSlotOfShare 4 = .ok (.bipush 32, 2) := by decide +kernel
theorem dX1_firstSlotOfShare_6 : decode cX1_firstSlotOfShare 6 = .ok (.iload_n 0, 1) := by decide +kernel
theorem dX1_firstSlotOfShare_7 : decode cX1_firstSlotOfShare 7 = .ok (.imul, 1) := by decide +kernel
theorem dX1_firstSlotOfShare_8 : decode cX1_firstSlotOfShare 8 = .ok (.iload_n 1, 1) := by decide +kernel
theorem dX1_firstSlotOfShare_9 : decode cX1_firstSlotOfShare 9 = .ok (.idiv, 1) := by decide +kernel
theorem dX1_firstSlotOfShare_10 : decode cX1_firstSlotOfShare 10 = .ok (.goto 4, 3) := by decide +kernel
theorem dX1_firstSlotOfShare_13 : decode cX1_firstSlotOfShare 13 = .ok (.iload_n 0, 1) := by decide +kernel
theorem dX1_firstSlotOfShare_14 : decode cX1_firstSlotOfShare 14 = .ok (.ireturn, 1) := by decide +kernel
theorem dX1_entriesOutOfShare_0 : decode cX1_entriesOutOfShare 0 = .ok (.iconst 0, 1) := by decide +kernel
theorem dX1_entriesOutOfShare_1 : decode cX1_entriesOutOfShare 1 = .ok (.istore_n 2, 1) := by decide +kernel
theorem dX1_entriesOutOfShare_2 : decode cX1_entriesOutOfShare 2 = .ok (.iconst 0, 1) := by decide +kernel
theorem dX1_entriesOutOfShare_3 : decode cX1_entriesOutOfShare 3 = .ok (.istore_n 3, 1) := by decide +kernel
theorem dX1_entriesOutOfShare_4 : decode cX1_entriesOutOfShare 4 = .ok (.iconst 0, 1) := by decide +kernel
theorem dX1_entriesOutOfShare_5 : decode cX1_entriesOutOfShare 5 = .ok (.istore 4, 2) := by decide +kernel
theorem dX1_entriesOutOfShare_7 : decode cX1_entriesOutOfShare 7 = .ok (.iload 4, 2) := by decide +kernel
theorem dX1_entriesOutOfShare_9 : decode cX1_entriesOutOfShare 9 = .ok (.bipush 32, 2) := by decide +kernel
theorem dX1_entriesOutOfShare_11 : decode cX1_entriesOutOfShare 11 = .ok (.if_icmp .ge 34, 3) := by decide +kernel
theorem dX1_entriesOutOfShare_14 : decode cX1_entriesOutOfShare 14 = .ok (.aload_n 0, 1) := by decide +kernel
theorem dX1_entriesOutOfShare_15 : decode cX1_entriesOutOfShare 15 = .ok (.iload 4, 2) := by decide +kernel
theorem dX1_entriesOutOfShare_17 : decode cX1_entriesOutOfShare 17 = .ok (.invokevirtual 53, 3) := by decide +kernel
theorem dX1_entriesOutOfShare_20 : decode cX1_entriesOutOfShare 20 = .ok (.ifCond .eq 19, 3) := by decide +kernel
theorem dX1_entriesOutOfShare_23 : decode cX1_entriesOutOfShare 23 = .ok (.iload 4, 2) := by decide +kernel
theorem dX1_entriesOutOfShare_25 : decode cX1_entriesOutOfShare 25 = .ok (.iload_n 2, 1) := by decide +kernel
theorem dX1_entriesOutOfShare_26 : decode cX1_entriesOutOfShare 26 = .ok (.iload_n 1, 1) := by decide +kernel
theorem dX1_entriesOutOfShare_27 : decode cX1_entriesOutOfShare 27 = .ok (.invokestatic 105, 3) := by decide +kernel
theorem dX1_entriesOutOfShare_30 : decode cX1_entriesOutOfShare 30 = .ok (.if_icmp .eq 6, 3) := by decide +kernel
theorem dX1_entriesOutOfShare_33 : decode cX1_entriesOutOfShare 33 = .ok (.iinc 3 1, 3) := by decide +kernel
theorem dX1_entriesOutOfShare_36 : decode cX1_entriesOutOfShare 36 = .ok (.iinc 2 1, 3) := by decide +kernel
theorem dX1_entriesOutOfShare_39 : decode cX1_entriesOutOfShare 39 = .ok (.iinc 4 1, 3) := by decide +kernel
theorem dX1_entriesOutOfShare_42 : decode cX1_entriesOutOfShare 42 = .ok (.goto (-35), 3) := by decide +kernel
theorem dX1_entriesOutOfShare_45 : decode cX1_entriesOutOfShare 45 = .ok (.iload_n 3, 1) := by decide +kernel
theorem dX1_entriesOutOfShare_46 : decode cX1_entriesOutOfShare 46 = .ok (.ireturn, 1) := by decide +kernel
theorem dX1_moveIntoShares_0 : decode cX1_moveIntoShares 0 = .ok (.aload_n 0, 1) := by decide +kernel
theorem dX1_moveIntoShares_1 : decode cX1_moveIntoShares 1 = .ok (.invokevirtual 108, 3) := by decide +kernel
theorem dX1_moveIntoShares_4 : decode cX1_moveIntoShares 4 = .ok (.istore_n 2, 1) := by decide +kernel
theorem dX1_moveIntoShares_5 : decode cX1_moveIntoShares 5 = .ok (.iload_n 2, 1) := by decide +kernel
theorem dX1_moveIntoShares_6 : decode cX1_moveIntoShares 6 = .ok (.iconst 1, 1) := by decide +kernel
theorem dX1_moveIntoShares_7 : decode cX1_moveIntoShares 7 = .ok (.isub, 1) := by decide +kernel
theorem dX1_moveIntoShares_8 : decode cX1_moveIntoShares 8 = .ok (.istore_n 3, 1) := by decide +kernel
theorem dX1_moveIntoShares_9 : decode cX1_moveIntoShares 9 = .ok (.iload_n 3, 1) := by decide +kernel
theorem dX1_moveIntoShares_10 : decode cX1_moveIntoShares 10 = .ok (.ifCond .lt 19, 3) := by decide +kernel
theorem dX1_moveIntoShares_13 : decode cX1_moveIntoShares 13 = .ok (.aload_n 0, 1) := by decide +kernel
theorem dX1_moveIntoShares_14 : decode cX1_moveIntoShares 14 = .ok (.iload_n 3, 1) := by decide +kernel
theorem dX1_moveIntoShares_15 : decode cX1_moveIntoShares 15 = .ok (.iload_n 3, 1) := by decide +kernel
theorem dX1_moveIntoShares_16 : decode cX1_moveIntoShares 16 = .ok (.iload_n 1, 1) := by decide +kernel
theorem dX1_moveIntoShares_17 : decode cX1_moveIntoShares 17 = .ok (.invokestatic 105, 3) := by decide +kernel
theorem dX1_moveIntoShares_20 : decode cX1_moveIntoShares 20 = .ok (.invokevirtual 102, 3) := by decide +kernel
theorem dX1_moveIntoShares_23 : decode cX1_moveIntoShares 23 = .ok (.iinc 3 (-1), 3) := by decide +kernel
theorem dX1_moveIntoShares_26 : decode cX1_moveIntoShares 26 = .ok (.goto (-17), 3) := by decide +kernel
theorem dX1_moveIntoShares_29 : decode cX1_moveIntoShares 29 = .ok (.return_, 1) := by decide +kernel
theorem dX1_moveToFront_0 : decode cX1_moveToFront 0 = .ok (.iconst 0, 1) := by decide +kernel
theorem dX1_moveToFront_1 : decode cX1_moveToFront 1 = .ok (.istore_n 1, 1) := by decide +kernel
theorem dX1_moveToFront_2 : decode cX1_moveToFront 2 = .ok (.iconst 0, 1) := by decide +kernel
theorem dX1_moveToFront_3 : decode cX1_moveToFront 3 = .ok (.istore_n 2, 1) := by decide +kernel
theorem dX1_moveToFront_4 : decode cX1_moveToFront 4 = .ok (.iload_n 2, 1) := by decide +kernel
theorem dX1_moveToFront_5 : decode cX1_moveToFront 5 = .ok (.bipush 32, 2) := by decide +kernel
theorem dX1_moveToFront_7 : decode cX1_moveToFront 7 = .ok (.if_icmp .ge 26, 3) := by decide +kernel
theorem dX1_moveToFront_10 : decode cX1_moveToFront 10 = .ok (.aload_n 0, 1) := by decide +kernel
theorem dX1_moveToFront_11 : decode cX1_moveToFront 11 = .ok (.iload_n 2, 1) := by decide +kernel
theorem dX1_moveToFront_12 : decode cX1_moveToFront 12 = .ok (.invokevirtual 53, 3) := by decide +kernel
theorem dX1_moveToFront_15 : decode cX1_moveToFront 15 = .ok (.ifCond .eq 12, 3) := by decide +kernel
theorem dX1_moveToFront_18 : decode cX1_moveToFront 18 = .ok (.aload_n 0, 1) := by decide +kernel
theorem dX1_moveToFront_19 : decode cX1_moveToFront 19 = .ok (.iload_n 2, 1) := by decide +kernel
theorem dX1_moveToFront_20 : decode cX1_moveToFront 20 = .ok (.iload_n 1, 1) := by decide +kernel
theorem dX1_moveToFront_21 : decode cX1_moveToFront 21 = .ok (.invokevirtual 102, 3) := by decide +kernel
theorem dX1_moveToFront_24 : decode cX1_moveToFront 24 = .ok (.iinc 1 1, 3) := by decide +kernel
theorem dX1_moveToFront_27 : decode cX1_moveToFront 27 = .ok (.iinc 2 1, 3) := by decide +kernel
theorem dX1_moveToFront_30 : decode cX1_moveToFront 30 = .ok (.goto (-26), 3) := by decide +kernel
theorem dX1_moveToFront_33 : decode cX1_moveToFront 33 = .ok (.iload_n 1, 1) := by decide +kernel
theorem dX1_moveToFront_34 : decode cX1_moveToFront 34 = .ok (.ireturn, 1) := by decide +kernel
theorem dX1_slotFoundBy_0 : decode cX1_slotFoundBy 0 = .ok (.iconst 0, 1) := by decide +kernel
theorem dX1_slotFoundBy_1 : decode cX1_slotFoundBy 1 = .ok (.istore_n 2, 1) := by decide +kernel
theorem dX1_slotFoundBy_2 : decode cX1_slotFoundBy 2 = .ok (.iload_n 2, 1) := by decide +kernel
theorem dX1_slotFoundBy_3 : decode cX1_slotFoundBy 3 = .ok (.bipush 32, 2) := by decide +kernel
theorem dX1_slotFoundBy_5 : decode cX1_slotFoundBy 5 = .ok (.if_icmp .ge 36, 3) := by decide +kernel
theorem dX1_slotFoundBy_8 : decode cX1_slotFoundBy 8 = .ok (.aload_n 0, 1) := by decide +kernel
theorem dX1_slotFoundBy_9 : decode cX1_slotFoundBy 9 = .ok (.iload_n 2, 1) := by decide +kernel
theorem dX1_slotFoundBy_10 : decode cX1_slotFoundBy 10 = .ok (.invokevirtual 53, 3) := by decide +kernel
theorem dX1_slotFoundBy_13 : decode cX1_slotFoundBy 13 = .ok (.ifCond .eq 22, 3) := by decide +kernel
theorem dX1_slotFoundBy_16 : decode cX1_slotFoundBy 16 = .ok (.iload_n 1, 1) := by decide +kernel
theorem dX1_slotFoundBy_17 : decode cX1_slotFoundBy 17 = .ok (.aload_n 0, 1) := by decide +kernel
theorem dX1_slotFoundBy_18 : decode cX1_slotFoundBy 18 = .ok (.getfield 18, 3) := by decide +kernel
theorem dX1_slotFoundBy_21 : decode cX1_slotFoundBy 21 = .ok (.iload_n 2, 1) := by decide +kernel
theorem dX1_slotFoundBy_22 : decode cX1_slotFoundBy 22 = .ok (.iaload, 1) := by decide +kernel
theorem dX1_slotFoundBy_23 : decode cX1_slotFoundBy 23 = .ok (.iand, 1) := by decide +kernel
theorem dX1_slotFoundBy_24 : decode cX1_slotFoundBy 24 = .ok (.aload_n 0, 1) := by decide +kernel
theorem dX1_slotFoundBy_25 : decode cX1_slotFoundBy 25 = .ok (.getfield 21, 3) := by decide +kernel
theorem dX1_slotFoundBy_28 : decode cX1_slotFoundBy 28 = .ok (.iload_n 2, 1) := by decide +kernel
theorem dX1_slotFoundBy_29 : decode cX1_slotFoundBy 29 = .ok (.iaload, 1) := by decide +kernel
theorem dX1_slotFoundBy_30 : decode cX1_slotFoundBy 30 = .ok (.if_icmp .ne 5, 3) := by decide +kernel
theorem dX1_slotFoundBy_33 : decode cX1_slotFoundBy 33 = .ok (.iload_n 2, 1) := by decide +kernel
theorem dX1_slotFoundBy_34 : decode cX1_slotFoundBy 34 = .ok (.ireturn, 1) := by decide +kernel
theorem dX1_slotFoundBy_35 : decode cX1_slotFoundBy 35 = .ok (.iinc 2 1, 3) := by decide +kernel
theorem dX1_slotFoundBy_38 : decode cX1_slotFoundBy 38 = .ok (.goto (-36), 3) := by decide +kernel
theorem dX1_slotFoundBy_41 : decode cX1_slotFoundBy 41 = .ok (.iconst (-1), 1) := by decide +kernel
theorem dX1_slotFoundBy_42 : decode cX1_slotFoundBy 42 = .ok (.ireturn, 1) := by decide +kernel
theorem dX1_keysFinding_0 : decode cX1_keysFinding 0 = .ok (.iconst 0, 1) := by decide +kernel
theorem dX1_keysFinding_1 : decode cX1_keysFinding 1 = .ok (.istore_n 2, 1) := by decide +kernel
theorem dX1_keysFinding_2 : decode cX1_keysFinding 2 = .ok (.iconst 0, 1) := by decide +kernel
theorem dX1_keysFinding_3 : decode cX1_keysFinding 3 = .ok (.istore_n 3, 1) := by decide +kernel
theorem dX1_keysFinding_4 : decode cX1_keysFinding 4 = .ok (.iload_n 3, 1) := by decide +kernel
theorem dX1_keysFinding_5 : decode cX1_keysFinding 5 = .ok (.sipush 256, 3) := by decide +kernel
theorem dX1_keysFinding_8 : decode cX1_keysFinding 8 = .ok (.if_icmp .ge 21, 3) := by decide +kernel
theorem dX1_keysFinding_11 : decode cX1_keysFinding 11 = .ok (.aload_n 0, 1) := by decide +kernel
theorem dX1_keysFinding_12 : decode cX1_keysFinding 12 = .ok (.iload_n 3, 1) := by decide +kernel
theorem dX1_keysFinding_13 : decode cX1_keysFinding 13 = .ok (.invokevirtual 111, 3) := by decide +kernel
theorem dX1_keysFinding_16 : decode cX1_keysFinding 16 = .ok (.iload_n 1, 1) := by decide +kernel
theorem dX1_keysFinding_17 : decode cX1_keysFinding 17 = .ok (.if_icmp .ne 6, 3) := by decide +kernel
theorem dX1_keysFinding_20 : decode cX1_keysFinding 20 = .ok (.iinc 2 1, 3) := by decide +kernel
theorem dX1_keysFinding_23 : decode cX1_keysFinding 23 = .ok (.iinc 3 1, 3) := by decide +kernel
theorem dX1_keysFinding_26 : decode cX1_keysFinding 26 = .ok (.goto (-22), 3) := by decide +kernel
theorem dX1_keysFinding_29 : decode cX1_keysFinding 29 = .ok (.iload_n 2, 1) := by decide +kernel
theorem dX1_keysFinding_30 : decode cX1_keysFinding 30 = .ok (.ireturn, 1) := by decide +kernel
theorem dX1_entriesNeverFound_0 : decode cX1_entriesNeverFound 0 = .ok (.iconst 0, 1) := by decide +kernel
theorem dX1_entriesNeverFound_1 : decode cX1_entriesNeverFound 1 = .ok (.istore_n 1, 1) := by decide +kernel
theorem dX1_entriesNeverFound_2 : decode cX1_entriesNeverFound 2 = .ok (.iconst 0, 1) := by decide +kernel
theorem dX1_entriesNeverFound_3 : decode cX1_entriesNeverFound 3 = .ok (.istore_n 2, 1) := by decide +kernel
theorem dX1_entriesNeverFound_4 : decode cX1_entriesNeverFound 4 = .ok (.iload_n 2, 1) := by decide +kernel
theorem dX1_entriesNeverFound_5 : decode cX1_entriesNeverFound 5 = .ok (.sipush 256, 3) := by decide +kernel
theorem dX1_entriesNeverFound_8 : decode cX1_entriesNeverFound 8 = .ok (.if_icmp .ge 26, 3) := by decide +kernel
theorem dX1_entriesNeverFound_11 : decode cX1_entriesNeverFound 11 = .ok (.aload_n 0, 1) := by decide +kernel
theorem dX1_entriesNeverFound_12 : decode cX1_entriesNeverFound 12 = .ok (.iload_n 2, 1) := by decide +kernel
theorem dX1_entriesNeverFound_13 : decode cX1_entriesNeverFound 13 = .ok (.invokevirtual 111, 3) := by decide +kernel
theorem dX1_entriesNeverFound_16 : decode cX1_entriesNeverFound 16 = .ok (.istore_n 3, 1) := by decide +kernel
theorem dX1_entriesNeverFound_17 : decode cX1_entriesNeverFound 17 = .ok (.iload_n 3, 1) := by decide +kernel
theorem dX1_entriesNeverFound_18 : decode cX1_entriesNeverFound 18 = .ok (.iconst (-1), 1) := by decide +kernel
theorem dX1_entriesNeverFound_19 : decode cX1_entriesNeverFound 19 = .ok (.if_icmp .eq 9, 3) := by decide +kernel
theorem dX1_entriesNeverFound_22 : decode cX1_entriesNeverFound 22 = .ok (.iload_n 1, 1) := by decide +kernel
theorem dX1_entriesNeverFound_23 : decode cX1_entriesNeverFound 23 = .ok (.iconst 1, 1) := by decide +kernel
theorem dX1_entriesNeverFound_24 : decode cX1_entriesNeverFound 24 = .ok (.iload_n 3, 1) := by decide +kernel
theorem dX1_entriesNeverFound_25 : decode cX1_entriesNeverFound 25 = .ok (.ishl, 1) := by decide +kernel
theorem dX1_entriesNeverFound_26 : decode cX1_entriesNeverFound 26 = .ok (.ior, 1) := by decide +kernel
theorem dX1_entriesNeverFound_27 : decode cX1_entriesNeverFound 27 = .ok (.istore_n 1, 1) := by decide +kernel
theorem dX1_entriesNeverFound_28 : decode cX1_entriesNeverFound 28 = .ok (.iinc 2 1, 3) := by decide +kernel
theorem dX1_entriesNeverFound_31 : decode cX1_entriesNeverFound 31 = .ok (.goto (-27), 3) := by decide +kernel
theorem dX1_entriesNeverFound_34 : decode cX1_entriesNeverFound 34 = .ok (.aload_n 0, 1) := by decide +kernel
theorem dX1_entriesNeverFound_35 : decode cX1_entriesNeverFound 35 = .ok (.invokevirtual 60, 3) := by decide +kernel
theorem dX1_entriesNeverFound_38 : decode cX1_entriesNeverFound 38 = .ok (.iload_n 1, 1) := by decide +kernel
theorem dX1_entriesNeverFound_39 : decode cX1_entriesNeverFound 39 = .ok (.invokestatic 114, 3) := by decide +kernel
theorem dX1_entriesNeverFound_42 : decode cX1_entriesNeverFound 42 = .ok (.isub, 1) := by decide +kernel
theorem dX1_entriesNeverFound_43 : decode cX1_entriesNeverFound 43 = .ok (.ireturn, 1) := by decide +kernel
theorem dX1_countSearch_0 : decode cX1_countSearch 0 = .ok (.aload_n 0, 1) := by decide +kernel
theorem dX1_countSearch_1 : decode cX1_countSearch 1 = .ok (.iload_n 2, 1) := by decide +kernel
theorem dX1_countSearch_2 : decode cX1_countSearch 2 = .ok (.invokevirtual 53, 3) := by decide +kernel
theorem dX1_countSearch_5 : decode cX1_countSearch 5 = .ok (.ifCond .ne 4, 3) := by decide +kernel
theorem dX1_countSearch_8 : decode cX1_countSearch 8 = .ok (.return_, 1) := by decide +kernel
theorem dX1_countSearch_9 : decode cX1_countSearch 9 = .ok (.aload_n 0, 1) := by decide +kernel
theorem dX1_countSearch_10 : decode cX1_countSearch 10 = .ok (.dup, 1) := by decide +kernel
theorem dX1_countSearch_11 : decode cX1_countSearch 11 = .ok (.getfield 43, 3) := by decide +kernel
theorem dX1_countSearch_14 : decode cX1_countSearch 14 = .ok (.iconst 1, 1) := by decide +kernel
theorem dX1_countSearch_15 : decode cX1_countSearch 15 = .ok (.iadd, 1) := by decide +kernel
theorem dX1_countSearch_16 : decode cX1_countSearch 16 = .ok (.putfield 43, 3) := by decide +kernel
theorem dX1_countSearch_19 : decode cX1_countSearch 19 = .ok (.aload_n 0, 1) := by decide +kernel
theorem dX1_countSearch_20 : decode cX1_countSearch 20 = .ok (.dup, 1) := by decide +kernel
theorem dX1_countSearch_21 : decode cX1_countSearch 21 = .ok (.getfield 46, 3) := by decide +kernel
theorem dX1_countSearch_24 : decode cX1_countSearch 24 = .ok (.aload_n 0, 1) := by decide +kernel
theorem dX1_countSearch_25 : decode cX1_countSearch 25 = .ok (.iload_n 1, 1) := by decide +kernel
theorem dX1_countSearch_26 : decode cX1_countSearch 26 = .ok (.invokevirtual 119, 3) := by decide +kernel
theorem dX1_countSearch_29 : decode cX1_countSearch 29 = .ok (.iadd, 1) := by decide +kernel
theorem dX1_countSearch_30 : decode cX1_countSearch 30 = .ok (.putfield 46, 3) := by decide +kernel
theorem dX1_countSearch_33 : decode cX1_countSearch 33 = .ok (.aload_n 0, 1) := by decide +kernel
theorem dX1_countSearch_34 : decode cX1_countSearch 34 = .ok (.getfield 9, 3) := by decide +kernel
theorem dX1_countSearch_37 : decode cX1_countSearch 37 = .ok (.iload_n 2, 1) := by decide +kernel
theorem dX1_countSearch_38 : decode cX1_countSearch 38 = .ok (.iaload, 1) := by decide +kernel
theorem dX1_countSearch_39 : decode cX1_countSearch 39 = .ok (.istore_n 3, 1) := by decide +kernel
theorem dX1_countSearch_40 : decode cX1_countSearch 40 = .ok (.iconst 0, 1) := by decide +kernel
theorem dX1_countSearch_41 : decode cX1_countSearch 41 = .ok (.istore 4, 2) := by decide +kernel
theorem dX1_countSearch_43 : decode cX1_countSearch 43 = .ok (.iload 4, 2) := by decide +kernel
theorem dX1_countSearch_45 : decode cX1_countSearch 45 = .ok (.bipush 32, 2) := by decide +kernel
theorem dX1_countSearch_47 : decode cX1_countSearch 47 = .ok (.if_icmp .ge 31, 3) := by decide +kernel
theorem dX1_countSearch_50 : decode cX1_countSearch 50 = .ok (.aload_n 0, 1) := by decide +kernel
theorem dX1_countSearch_51 : decode cX1_countSearch 51 = .ok (.getfield 9, 3) := by decide +kernel
theorem dX1_countSearch_54 : decode cX1_countSearch 54 = .ok (.iload 4, 2) := by decide +kernel
theorem dX1_countSearch_56 : decode cX1_countSearch 56 = .ok (.iaload, 1) := by decide +kernel
theorem dX1_countSearch_57 : decode cX1_countSearch 57 = .ok (.iload_n 3, 1) := by decide +kernel
theorem dX1_countSearch_58 : decode cX1_countSearch 58 = .ok (.if_icmp .ne 14, 3) := by decide +kernel
theorem dX1_countSearch_61 : decode cX1_countSearch 61 = .ok (.aload_n 0, 1) := by decide +kernel
theorem dX1_countSearch_62 : decode cX1_countSearch 62 = .ok (.getfield 30, 3) := by decide +kernel
theorem dX1_countSearch_65 : decode cX1_countSearch 65 = .ok (.iload 4, 2) := by decide +kernel
theorem dX1_countSearch_67 : decode cX1_countSearch 67 = .ok (.dup2, 1) := by decide +kernel
theorem dX1_countSearch_68 : decode cX1_countSearch 68 = .ok (.iaload, 1) := by decide +kernel
theorem dX1_countSearch_69 : decode cX1_countSearch 69 = .ok (.iconst 1, 1) := by decide +kernel
theorem dX1_countSearch_70 : decode cX1_countSearch 70 = .ok (.iadd, 1) := by decide +kernel
theorem dX1_countSearch_71 : decode cX1_countSearch 71 = .ok (.iastore, 1) := by decide +kernel
theorem dX1_countSearch_72 : decode cX1_countSearch 72 = .ok (.iinc 4 1, 3) := by decide +kernel
theorem dX1_countSearch_75 : decode cX1_countSearch 75 = .ok (.goto (-32), 3) := by decide +kernel
theorem dX1_countSearch_78 : decode cX1_countSearch 78 = .ok (.return_, 1) := by decide +kernel
theorem dX1_slotHiding_0 : decode cX1_slotHiding 0 = .ok (.aload_n 0, 1) := by decide +kernel
theorem dX1_slotHiding_1 : decode cX1_slotHiding 1 = .ok (.iload_n 1, 1) := by decide +kernel
theorem dX1_slotHiding_2 : decode cX1_slotHiding 2 = .ok (.invokevirtual 53, 3) := by decide +kernel
theorem dX1_slotHiding_5 : decode cX1_slotHiding 5 = .ok (.ifCond .ne 5, 3) := by decide +kernel
theorem dX1_slotHiding_8 : decode cX1_slotHiding 8 = .ok (.iconst (-1), 1) := by decide +kernel
theorem dX1_slotHiding_9 : decode cX1_slotHiding 9 = .ok (.ireturn, 1) := by decide +kernel
theorem dX1_slotHiding_10 : decode cX1_slotHiding 10 = .ok (.aload_n 0, 1) := by decide +kernel
theorem dX1_slotHiding_11 : decode cX1_slotHiding 11 = .ok (.getfield 18, 3) := by decide +kernel
theorem dX1_slotHiding_14 : decode cX1_slotHiding 14 = .ok (.iload_n 1, 1) := by decide +kernel
theorem dX1_slotHiding_15 : decode cX1_slotHiding 15 = .ok (.iaload, 1) := by decide +kernel
theorem dX1_slotHiding_16 : decode cX1_slotHiding 16 = .ok (.istore_n 2, 1) := by decide +kernel
theorem dX1_slotHiding_17 : decode cX1_slotHiding 17 = .ok (.aload_n 0, 1) := by decide +kernel
theorem dX1_slotHiding_18 : decode cX1_slotHiding 18 = .ok (.getfield 21, 3) := by decide +kernel
theorem dX1_slotHiding_21 : decode cX1_slotHiding 21 = .ok (.iload_n 1, 1) := by decide +kernel
theorem dX1_slotHiding_22 : decode cX1_slotHiding 22 = .ok (.iaload, 1) := by decide +kernel
theorem dX1_slotHiding_23 : decode cX1_slotHiding 23 = .ok (.istore_n 3, 1) := by decide +kernel
theorem dX1_slotHiding_24 : decode cX1_slotHiding 24 = .ok (.iconst 0, 1) := by decide +kernel
theorem dX1_slotHiding_25 : decode cX1_slotHiding 25 = .ok (.istore 4, 2) := by decide +kernel
theorem dX1_slotHiding_27 : decode cX1_slotHiding 27 = .ok (.iload 4, 2) := by decide +kernel
theorem dX1_slotHiding_29 : decode cX1_slotHiding 29 = .ok (.iload_n 1, 1) := by decide +kernel
theorem dX1_slotHiding_30 : decode cX1_slotHiding 30 = .ok (.if_icmp .ge 59, 3) := by decide +kernel
theorem dX1_slotHiding_33 : decode cX1_slotHiding 33 = .ok (.aload_n 0, 1) := by decide +kernel
theorem dX1_slotHiding_34 : decode cX1_slotHiding 34 = .ok (.iload 4, 2) := by decide +kernel
theorem dX1_slotHiding_36 : decode cX1_slotHiding 36 = .ok (.invokevirtual 53, 3) := by decide +kernel
theorem dX1_slotHiding_39 : decode cX1_slotHiding 39 = .ok (.ifCond .eq 44, 3) := by decide +kernel
theorem dX1_slotHiding_42 : decode cX1_slotHiding 42 = .ok (.aload_n 0, 1) := by decide +kernel
theorem dX1_slotHiding_43 : decode cX1_slotHiding 43 = .ok (.getfield 18, 3) := by decide +kernel
theorem dX1_slotHiding_46 : decode cX1_slotHiding 46 = .ok (.iload 4, 2) := by decide +kernel
theorem dX1_slotHiding_48 : decode cX1_slotHiding 48 = .ok (.iaload, 1) := by decide +kernel
theorem dX1_slotHiding_49 : decode cX1_slotHiding 49 = .ok (.iload_n 2, 1) := by decide +kernel
theorem dX1_slotHiding_50 : decode cX1_slotHiding 50 = .ok (.iand, 1) := by decide +kernel
theorem dX1_slotHiding_51 : decode cX1_slotHiding 51 = .ok (.aload_n 0, 1) := by decide +kernel
theorem dX1_slotHiding_52 : decode cX1_slotHiding 52 = .ok (.getfield 18, 3) := by decide +kernel
theorem dX1_slotHiding_55 : decode cX1_slotHiding 55 = .ok (.iload 4, 2) := by decide +kernel
theorem dX1_slotHiding_57 : decode cX1_slotHiding 57 = .ok (.iaload, 1) := by decide +kernel
theorem dX1_slotHiding_58 : decode cX1_slotHiding 58 = .ok (.if_icmp .ne 25, 3) := by decide +kernel
theorem dX1_slotHiding_61 : decode cX1_slotHiding 61 = .ok (.iload_n 3, 1) := by decide +kernel
theorem dX1_slotHiding_62 : decode cX1_slotHiding 62 = .ok (.aload_n 0, 1) := by decide +kernel
theorem dX1_slotHiding_63 : decode cX1_slotHiding 63 = .ok (.getfield 18, 3) := by decide +kernel
theorem dX1_slotHiding_66 : decode cX1_slotHiding 66 = .ok (.iload 4, 2) := by decide +kernel
theorem dX1_slotHiding_68 : decode cX1_slotHiding 68 = .ok (.iaload, 1) := by decide +kernel
theorem dX1_slotHiding_69 : decode cX1_slotHiding 69 = .ok (.iand, 1) := by decide +kernel
theorem dX1_slotHiding_70 : decode cX1_slotHiding 70 = .ok (.aload_n 0, 1) := by decide +kernel
theorem dX1_slotHiding_71 : decode cX1_slotHiding 71 = .ok (.getfield 21, 3) := by decide +kernel
theorem dX1_slotHiding_74 : decode cX1_slotHiding 74 = .ok (.iload 4, 2) := by decide +kernel
theorem dX1_slotHiding_76 : decode cX1_slotHiding 76 = .ok (.iaload, 1) := by decide +kernel
theorem dX1_slotHiding_77 : decode cX1_slotHiding 77 = .ok (.if_icmp .ne 6, 3) := by decide +kernel
theorem dX1_slotHiding_80 : decode cX1_slotHiding 80 = .ok (.iload 4, 2) := by decide +kernel
theorem dX1_slotHiding_82 : decode cX1_slotHiding 82 = .ok (.ireturn, 1) := by decide +kernel
theorem dX1_slotHiding_83 : decode cX1_slotHiding 83 = .ok (.iinc 4 1, 3) := by decide +kernel
theorem dX1_slotHiding_86 : decode cX1_slotHiding 86 = .ok (.goto (-59), 3) := by decide +kernel
theorem dX1_slotHiding_89 : decode cX1_slotHiding 89 = .ok (.iconst (-1), 1) := by decide +kernel
theorem dX1_slotHiding_90 : decode cX1_slotHiding 90 = .ok (.ireturn, 1) := by decide +kernel
theorem dX1_entriesInBank_0 : decode cX1_entriesInBank 0 = .ok (.iconst 0, 1) := by decide +kernel
theorem dX1_entriesInBank_1 : decode cX1_entriesInBank 1 = .ok (.istore_n 2, 1) := by decide +kernel
theorem dX1_entriesInBank_2 : decode cX1_entriesInBank 2 = .ok (.iconst 0, 1) := by decide +kernel
theorem dX1_entriesInBank_3 : decode cX1_entriesInBank 3 = .ok (.istore_n 3, 1) := by decide +kernel
theorem dX1_entriesInBank_4 : decode cX1_entriesInBank 4 = .ok (.iload_n 3, 1) := by decide +kernel
theorem dX1_entriesInBank_5 : decode cX1_entriesInBank 5 = .ok (.bipush 8, 2) := by decide +kernel
theorem dX1_entriesInBank_7 : decode cX1_entriesInBank 7 = .ok (.if_icmp .ge 25, 3) := by decide +kernel
theorem dX1_entriesInBank_10 : decode cX1_entriesInBank 10 = .ok (.aload_n 0, 1) := by decide +kernel
theorem dX1_entriesInBank_11 : decode cX1_entriesInBank 11 = .ok (.iload_n 1, 1) := by decide +kernel
theorem dX1_entriesInBank_12 : decode cX1_entriesInBank 12 = .ok (.bipush 8, 2) := by decide +kernel
theorem dX1_entriesInBank_14 : decode cX1_entriesInBank 14 = .ok (.imul, 1) := by decide +kernel
theorem dX1_entriesInBank_15 : decode cX1_entriesInBank 15 = .ok (.iload_n 3, 1) := by decide +kernel
theorem dX1_entriesInBank_16 : decode cX1_entriesInBank 16 = .ok (.iadd, 1) := by decide +kernel
theorem dX1_entriesInBank_17 : decode cX1_entriesInBank 17 = .ok (.invokevirtual 53, 3) := by decide +kernel
theorem dX1_entriesInBank_20 : decode cX1_entriesInBank 20 = .ok (.ifCond .eq 6, 3) := by decide +kernel
theorem dX1_entriesInBank_23 : decode cX1_entriesInBank 23 = .ok (.iinc 2 1, 3) := by decide +kernel
theorem dX1_entriesInBank_26 : decode cX1_entriesInBank 26 = .ok (.iinc 3 1, 3) := by decide +kernel
theorem dX1_entriesInBank_29 : decode cX1_entriesInBank 29 = .ok (.goto (-25), 3) := by decide +kernel
theorem dX1_entriesInBank_32 : decode cX1_entriesInBank 32 = .ok (.iload_n 2, 1) := by decide +kernel
theorem dX1_entriesInBank_33 : decode cX1_entriesInBank 33 = .ok (.ireturn, 1) := by decide +kernel
theorem dX1_powerFor_0 : decode cX1_powerFor 0 = .ok (.iconst 0, 1) := by decide +kernel
theorem dX1_powerFor_1 : decode cX1_powerFor 1 = .ok (.istore_n 2, 1) := by decide +kernel
theorem dX1_powerFor_2 : decode cX1_powerFor 2 = .ok (.iconst 0, 1) := by decide +kernel
theorem dX1_powerFor_3 : decode cX1_powerFor 3 = .ok (.istore_n 3, 1) := by decide +kernel
theorem dX1_powerFor_4 : decode cX1_powerFor 4 = .ok (.iload_n 3, 1) := by decide +kernel
theorem dX1_powerFor_5 : decode cX1_powerFor 5 = .ok (.iconst 4, 1) := by decide +kernel
theorem dX1_powerFor_6 : decode cX1_powerFor 6 = .ok (.if_icmp .ge 32, 3) := by decide +kernel
theorem dX1_powerFor_9 : decode cX1_powerFor 9 = .ok (.iload_n 1, 1) := by decide +kernel
theorem dX1_powerFor_10 : decode cX1_powerFor 10 = .ok (.aload_n 0, 1) := by decide +kernel
theorem dX1_powerFor_11 : decode cX1_powerFor 11 = .ok (.iload_n 3, 1) := by decide +kernel
theorem dX1_powerFor_12 : decode cX1_powerFor 12 = .ok (.invokevirtual 122, 3) := by decide +kernel
theorem dX1_powerFor_15 : decode cX1_powerFor 15 = .ok (.iand, 1) := by decide +kernel
theorem dX1_powerFor_16 : decode cX1_powerFor 16 = .ok (.aload_n 0, 1) := by decide +kernel
theorem dX1_powerFor_17 : decode cX1_powerFor 17 = .ok (.iload_n 3, 1) := by decide +kernel
theorem dX1_powerFor_18 : decode cX1_powerFor 18 = .ok (.invokevirtual 125, 3) := by decide +kernel
theorem dX1_powerFor_21 : decode cX1_powerFor 21 = .ok (.if_icmp .ne 11, 3) := by decide +kernel
theorem dX1_powerFor_24 : decode cX1_powerFor 24 = .ok (.iload_n 2, 1) := by decide +kernel
theorem dX1_powerFor_25 : decode cX1_powerFor 25 = .ok (.aload_n 0, 1) := by decide +kernel
theorem dX1_powerFor_26 : decode cX1_powerFor 26 = .ok (.iload_n 3, 1) := by decide +kernel
theorem dX1_powerFor_27 : decode cX1_powerFor 27 = .ok (.invokevirtual 56, 3) := by decide +kernel
theorem dX1_powerFor_30 : decode cX1_powerFor 30 = .ok (.iadd, 1) := by decide +kernel
theorem dX1_powerFor_31 : decode cX1_powerFor 31 = .ok (.istore_n 2, 1) := by decide +kernel
theorem dX1_powerFor_32 : decode cX1_powerFor 32 = .ok (.iinc 3 1, 3) := by decide +kernel
theorem dX1_powerFor_35 : decode cX1_powerFor 35 = .ok (.goto (-31), 3) := by decide +kernel
theorem dX1_powerFor_38 : decode cX1_powerFor 38 = .ok (.iload_n 2, 1) := by decide +kernel
theorem dX1_powerFor_39 : decode cX1_powerFor 39 = .ok (.ireturn, 1) := by decide +kernel
theorem dX1_commonMask_0 : decode cX1_commonMask 0 = .ok (.aload_n 0, 1) := by decide +kernel
theorem dX1_commonMask_1 : decode cX1_commonMask 1 = .ok (.iload_n 1, 1) := by decide +kernel
theorem dX1_commonMask_2 : decode cX1_commonMask 2 = .ok (.invokevirtual 128, 3) := by decide +kernel
theorem dX1_commonMask_5 : decode cX1_commonMask 5 = .ok (.istore_n 2, 1) := by decide +kernel
theorem dX1_commonMask_6 : decode cX1_commonMask 6 = .ok (.iload_n 2, 1) := by decide +kernel
theorem dX1_commonMask_7 : decode cX1_commonMask 7 = .ok (.invokestatic 49, 3) := by decide +kernel
theorem dX1_commonMask_10 : decode cX1_commonMask 10 = .ok (.ifCond .ne 5, 3) := by decide +kernel
theorem dX1_commonMask_13 : decode cX1_commonMask 13 = .ok (.iconst 0, 1) := by decide +kernel
theorem dX1_commonMask_14 : decode cX1_commonMask 14 = .ok (.ireturn, 1) := by decide +kernel
theorem dX1_commonMask_15 : decode cX1_commonMask 15 = .ok (.aload_n 0, 1) := by decide +kernel
theorem dX1_commonMask_16 : decode cX1_commonMask 16 = .ok (.getfield 18, 3) := by decide +kernel
theorem dX1_commonMask_19 : decode cX1_commonMask 19 = .ok (.iload_n 2, 1) := by decide +kernel
theorem dX1_commonMask_20 : decode cX1_commonMask 20 = .ok (.iaload, 1) := by decide +kernel
theorem dX1_commonMask_21 : decode cX1_commonMask 21 = .ok (.istore_n 3, 1) := by decide +kernel
theorem dX1_commonMask_22 : decode cX1_commonMask 22 = .ok (.iconst 0, 1) := by decide +kernel
theorem dX1_commonMask_23 : decode cX1_commonMask 23 = .ok (.istore 4, 2) := by decide +kernel
theorem dX1_commonMask_25 : decode cX1_commonMask 25 = .ok (.iload 4, 2) := by decide +kernel
theorem dX1_commonMask_27 : decode cX1_commonMask 27 = .ok (.bipush 8, 2) := by decide +kernel
theorem dX1_commonMask_29 : decode cX1_commonMask 29 = .ok (.if_icmp .ge 54, 3) := by decide +kernel
theorem dX1_commonMask_32 : decode cX1_commonMask 32 = .ok (.iload_n 1, 1) := by decide +kernel
theorem dX1_commonMask_33 : decode cX1_commonMask 33 = .ok (.bipush 8, 2) := by decide +kernel
theorem dX1_commonMask_35 : decode cX1_commonMask 35 = .ok (.imul, 1) := by decide +kernel
theorem dX1_commonMask_36 : decode cX1_commonMask 36 = .ok (.iload 4, 2) := by decide +kernel
theorem dX1_commonMask_38 : decode cX1_commonMask 38 = .ok (.iadd, 1) := by decide +kernel
theorem dX1_commonMask_39 : decode cX1_commonMask 39 = .ok (.istore 5, 2) := by decide +kernel
theorem dX1_commonMask_41 : decode cX1_commonMask 41 = .ok (.aload_n 0, 1) := by decide +kernel
theorem dX1_commonMask_42 : decode cX1_commonMask 42 = .ok (.iload 5, 2) := by decide +kernel
theorem dX1_commonMask_44 : decode cX1_commonMask 44 = .ok (.invokevirtual 53, 3) := by decide +kernel
theorem dX1_commonMask_47 : decode cX1_commonMask 47 = .ok (.ifCond .eq 30, 3) := by decide +kernel
theorem dX1_commonMask_50 : decode cX1_commonMask 50 = .ok (.iload_n 3, 1) := by decide +kernel
theorem dX1_commonMask_51 : decode cX1_commonMask 51 = .ok (.aload_n 0, 1) := by decide +kernel
theorem dX1_commonMask_52 : decode cX1_commonMask 52 = .ok (.getfield 18, 3) := by decide +kernel
theorem dX1_commonMask_55 : decode cX1_commonMask 55 = .ok (.iload 5, 2) := by decide +kernel
theorem dX1_commonMask_57 : decode cX1_commonMask 57 = .ok (.iaload, 1) := by decide +kernel
theorem dX1_commonMask_58 : decode cX1_commonMask 58 = .ok (.aload_n 0, 1) := by decide +kernel
theorem dX1_commonMask_59 : decode cX1_commonMask 59 = .ok (.getfield 21, 3) := by decide +kernel
theorem dX1_commonMask_62 : decode cX1_commonMask 62 = .ok (.iload 5, 2) := by decide +kernel
theorem dX1_commonMask_64 : decode cX1_commonMask 64 = .ok (.iaload, 1) := by decide +kernel
theorem dX1_commonMask_65 : decode cX1_commonMask 65 = .ok (.aload_n 0, 1) := by decide +kernel
theorem dX1_commonMask_66 : decode cX1_commonMask 66 = .ok (.getfield 21, 3) := by decide +kernel
theorem dX1_commonMask_69 : decode cX1_commonMask 69 = .ok (.iload_n 2, 1) := by decide +kernel
theorem dX1_commonMask_70 : decode cX1_commonMask 70 = .ok (.iaload, 1) := by decide +kernel
theorem dX1_commonMask_71 : decode cX1_commonMask 71 = .ok (.ixor, 1) := by decide +kernel
theorem dX1_commonMask_72 : decode cX1_commonMask 72 = .ok (.iconst (-1), 1) := by decide +kernel
theorem dX1_commonMask_73 : decode cX1_commonMask 73 = .ok (.ixor, 1) := by decide +kernel
theorem dX1_commonMask_74 : decode cX1_commonMask 74 = .ok (.iand, 1) := by decide +kernel
theorem dX1_commonMask_75 : decode cX1_commonMask 75 = .ok (.iand, 1) := by decide +kernel
theorem dX1_commonMask_76 : decode cX1_commonMask 76 = .ok (.istore_n 3, 1) := by decide +kernel
theorem dX1_commonMask_77 : decode cX1_commonMask 77 = .ok (.iinc 4 1, 3) := by decide +kernel
theorem dX1_commonMask_80 : decode cX1_commonMask 80 = .ok (.goto (-55), 3) := by decide +kernel
theorem dX1_commonMask_83 : decode cX1_commonMask 83 = .ok (.iload_n 3, 1) := by decide +kernel
theorem dX1_commonMask_84 : decode cX1_commonMask 84 = .ok (.ireturn, 1) := by decide +kernel
theorem dX1_commonValue_0 : decode cX1_commonValue 0 = .ok (.aload_n 0, 1) := by decide +kernel
theorem dX1_commonValue_1 : decode cX1_commonValue 1 = .ok (.iload_n 1, 1) := by decide +kernel
theorem dX1_commonValue_2 : decode cX1_commonValue 2 = .ok (.invokevirtual 128, 3) := by decide +kernel
theorem dX1_commonValue_5 : decode cX1_commonValue 5 = .ok (.istore_n 2, 1) := by decide +kernel
theorem dX1_commonValue_6 : decode cX1_commonValue 6 = .ok (.iload_n 2, 1) := by decide +kernel
theorem dX1_commonValue_7 : decode cX1_commonValue 7 = .ok (.invokestatic 49, 3) := by decide +kernel
theorem dX1_commonValue_10 : decode cX1_commonValue 10 = .ok (.ifCond .eq 18, 3) := by decide +kernel
theorem dX1_commonValue_13 : decode cX1_commonValue 13 = .ok (.aload_n 0, 1) := by decide +kernel
theorem dX1_commonValue_14 : decode cX1_commonValue 14 = .ok (.getfield 21, 3) := by decide +kernel
theorem dX1_commonValue_17 : decode cX1_commonValue 17 = .ok (.iload_n 2, 1) := by decide +kernel
theorem dX1_commonValue_18 : decode cX1_commonValue 18 = .ok (.iaload, 1) := by decide +kernel
theorem dX1_commonValue_19 : decode cX1_commonValue 19 = .ok (.aload_n 0, 1) := by decide +kernel
theorem dX1_commonValue_20 : decode cX1_commonValue 20 = .ok (.iload_n 1, 1) := by decide +kernel
theorem dX1_commonValue_21 : decode cX1_commonValue 21 = .ok (.invokevirtual 122, 3) := by decide +kernel
theorem dX1_commonValue_24 : decode cX1_commonValue 24 = .ok (.iand, 1) := by decide +kernel
theorem dX1_commonValue_25 : decode cX1_commonValue 25 = .ok (.goto 4, 3) := by decide +kernel
theorem dX1_commonValue_28 : decode cX1_commonValue 28 = .ok (.iconst 0, 1) := by decide +kernel
theorem dX1_commonValue_29 : decode cX1_commonValue 29 = .ok (.ireturn, 1) := by decide +kernel
theorem dX1_firstEntryOfBank_0 : decode cX1_firstEntryOfBank 0 = .ok (.iconst 0, 1) := by decide +kernel
theorem dX1_firstEntryOfBank_1 : decode cX1_firstEntryOfBank 1 = .ok (.istore_n 2, 1) := by decide +kernel
theorem dX1_firstEntryOfBank_2 : decode cX1_firstEntryOfBank 2 = .ok (.iload_n 2, 1) := by decide +kernel
theorem dX1_firstEntryOfBank_3 : decode cX1_firstEntryOfBank 3 = .ok (.bipush 8, 2) := by decide +kernel
theorem dX1_firstEntryOfBank_5 : decode cX1_firstEntryOfBank 5 = .ok (.if_icmp .ge 29, 3) := by decide +kernel
theorem dX1_firstEntryOfBank_8 : decode cX1_firstEntryOfBank 8 = .ok (.aload_n 0, 1) := by decide +kernel
theorem dX1_firstEntryOfBank_9 : decode cX1_firstEntryOfBank 9 = .ok (.iload_n 1, 1) := by decide +kernel
theorem dX1_firstEntryOfBank_10 : decode cX1_firstEntryOfBank 10 = .ok (.bipush 8, 2) := by decide +kernel
theorem dX1_firstEntryOfBank_12 : decode cX1_firstEntryOfBank 12 = .ok (.imul, 1) := by decide +kernel
theorem dX1_firstEntryOfBank_13 : decode cX1_firstEntryOfBank 13 = .ok (.iload_n 2, 1) := by decide +kernel
theorem dX1_firstEntryOfBank_14 : decode cX1_firstEntryOfBank 14 = .ok (.iadd, 1) := by decide +kernel
theorem dX1_firstEntryOfBank_15 : decode cX1_firstEntryOfBank 15 = .ok (.invokevirtual 53, 3) := by decide +kernel
theorem dX1_firstEntryOfBank_18 : decode cX1_firstEntryOfBank 18 = .ok (.ifCond .eq 10, 3) := by decide +kernel
theorem dX1_firstEntryOfBank_21 : decode cX1_firstEntryOfBank 21 = .ok (.iload_n 1, 1) := by decide +kernel
theorem dX1_firstEntryOfBank_22 : decode cX1_firstEntryOfBank 22 = .ok (.bipush 8, 2) := by decide +kernel
theorem dX1_firstEntryOfBank_24 : decode cX1_firstEntryOfBank 24 = .ok (.imul, 1) := by decide +kernel
theorem dX1_firstEntryOfBank_25 : decode cX1_firstEntryOfBank 25 = .ok (.iload_n 2, 1) := by decide +kernel
theorem dX1_firstEntryOfBank_26 : decode cX1_firstEntryOfBank 26 = .ok (.iadd, 1) := by decide +kernel
theorem dX1_firstEntryOfBank_27 : decode cX1_firstEntryOfBank 27 = .ok (.ireturn, 1) := by decide +kernel
theorem dX1_firstEntryOfBank_28 : decode cX1_firstEntryOfBank 28 = .ok (.iinc 2 1, 3) := by decide +kernel
theorem dX1_firstEntryOfBank_31 : decode cX1_firstEntryOfBank 31 = .ok (.goto (-29), 3) := by decide +kernel
theorem dX1_firstEntryOfBank_34 : decode cX1_firstEntryOfBank 34 = .ok (.iconst (-1), 1) := by decide +kernel
theorem dX1_firstEntryOfBank_35 : decode cX1_firstEntryOfBank 35 = .ok (.ireturn, 1) := by decide +kernel
theorem dX2_init_0 : decode cX2_init 0 = .ok (.aload_n 0, 1) := by decide +kernel
theorem dX2_init_1 : decode cX2_init 1 = .ok (.invokespecial 5, 3) := by decide +kernel
theorem dX2_init_4 : decode cX2_init 4 = .ok (.aload_n 0, 1) := by decide +kernel
theorem dX2_init_5 : decode cX2_init 5 = .ok (.bipush 60, 2) := by decide +kernel
theorem dX2_init_7 : decode cX2_init 7 = .ok (.newarray .int, 2) := by decide +kernel
theorem dX2_init_9 : decode cX2_init 9 = .ok (.putfield 11, 3) := by decide +kernel
theorem dX2_init_12 : decode cX2_init 12 = .ok (.aload_n 0, 1) := by decide +kernel
theorem dX2_init_13 : decode cX2_init 13 = .ok (.iconst 0, 1) := by decide +kernel
theorem dX2_init_14 : decode cX2_init 14 = .ok (.putfield 15, 3) := by decide +kernel
theorem dX2_init_17 : decode cX2_init 17 = .ok (.aload_n 0, 1) := by decide +kernel
theorem dX2_init_18 : decode cX2_init 18 = .ok (.iconst 0, 1) := by decide +kernel
theorem dX2_init_19 : decode cX2_init 19 = .ok (.putfield 19, 3) := by decide +kernel
theorem dX2_init_22 : decode cX2_init 22 = .ok (.aload_n 0, 1) := by decide +kernel
theorem dX2_init_23 : decode cX2_init 23 = .ok (.iconst 0, 1) := by decide +kernel
theorem dX2_init_24 : decode cX2_init 24 = .ok (.putfield 22, 3) := by decide +kernel
theorem dX2_init_27 : decode cX2_init 27 = .ok (.aload_n 0, 1) := by decide +kernel
theorem dX2_init_28 : decode cX2_init 28 = .ok (.iconst 5, 1) := by decide +kernel
theorem dX2_init_29 : decode cX2_init 29 = .ok (.newarray .int, 2) := by decide +kernel
theorem dX2_init_31 : decode cX2_init 31 = .ok (.putfield 25, 3) := by decide +kernel
theorem dX2_init_34 : decode cX2_init 34 = .ok (.aload_n 0, 1) := by decide +kernel
theorem dX2_init_35 : decode cX2_init 35 = .ok (.iconst 5, 1) := by decide +kernel
theorem dX2_init_36 : decode cX2_init 36 = .ok (.newarray .int, 2) := by decide +kernel
theorem dX2_init_38 : decode cX2_init 38 = .ok (.putfield 28, 3) := by decide +kernel
theorem dX2_init_41 : decode cX2_init 41 = .ok (.aload_n 0, 1) := by decide +kernel
theorem dX2_init_42 : decode cX2_init 42 = .ok (.iconst 5, 1) := by decide +kernel
theorem dX2_init_43 : decode cX2_init 43 = .ok (.newarray .int, 2) := by decide +kernel
theorem dX2_init_45 : decode cX2_init 45 = .ok (.putfield 31, 3) := by decide +kernel
theorem dX2_init_48 : decode cX2_init 48 = .ok (.aload_n 0, 1) := by decide +kernel
theorem dX2_init_49 : decode cX2_init 49 = .ok (.iconst 5, 1) := by decide +kernel
theorem dX2_init_50 : decode cX2_init 50 = .ok (.newarray .int, 2) := by decide +kernel
theorem dX2_init_52 : decode cX2_init 52 = .ok (.putfield 34, 3) := by decide +kernel
theorem dX2_init_55 : decode cX2_init 55 = .ok (.return_, 1) := by decide +kernel
theorem dX2_append_0 : decode cX2_append 0 = .ok (.aload_n 0, 1) := by decide +kernel
theorem dX2_append_1 : decode cX2_append 1 = .ok (.getfield 15, 3) := by decide +kernel
theorem dX2_append_4 : decode cX2_append 4 = .ok (.ifCond .lt 12, 3) := by decide +kernel
theorem dX2_append_7 : decode cX2_append 7 = .ok (.aload_n 0, 1) := by decide +kernel
theorem dX2_append_8 : decode cX2_append 8 = .ok (.getfield 15, 3) := by decide +kernel
theorem dX2_append_11 : decode cX2_append 11 = .ok (.bipush 60, 2) := by decide +kernel
theorem dX2_append_13 : decode cX2_append 13 = .ok (.if_icmp .lt 5, 3) := by decide +kernel
theorem dX2_append_16 : decode cX2_append 16 = .ok (.iconst 0, 1) := by decide +kernel
theorem dX2_append_17 : decode cX2_append 17 = .ok (.ireturn, 1) := by decide +kernel
theorem dX2_append_18 : decode cX2_append 18 = .ok (.aload_n 0, 1) := by decide +kernel
theorem dX2_append_19 : decode cX2_append 19 = .ok (.getfield 11, 3) := by decide +kernel
theorem dX2_append_22 : decode cX2_append 22 = .ok (.aload_n 0, 1) := by decide +kernel
theorem dX2_append_23 : decode cX2_append 23 = .ok (.getfield 15, 3) := by decide +kernel
theorem dX2_append_26 : decode cX2_append 26 = .ok (.iload_n 1, 1) := by decide +kernel
theorem dX2_append_27 : decode cX2_append 27 = .ok (.iastore, 1) := by decide +kernel
theorem dX2_append_28 : decode cX2_append 28 = .ok (.aload_n 0, 1) := by decide +kernel
theorem dX2_append_29 : decode cX2_append 29 = .ok (.dup, 1) := by decide +kernel
theorem dX2_append_30 : decode cX2_append 30 = .ok (.getfield 15, 3) := by decide +kernel
theorem dX2_append_33 : decode cX2_append 33 = .ok (.iconst 1, 1) := by decide +kernel
theorem dX2_append_34 : decode cX2_append 34 = .ok (.iadd, 1) := by decide +kernel
theorem dX2_append_35 : decode cX2_append 35 = .ok (.putfield 15, 3) := by decide +kernel
theorem dX2_append_38 : decode cX2_append 38 = .ok (.iconst 1, 1) := by decide +kernel
theorem dX2_append_39 : decode cX2_append 39 = .ok (.ireturn, 1) := by decide +kernel
theorem dX2_readRules_0 : decode cX2_readRules 0 = .ok (.aload_n 0, 1) := by decide +kernel
theorem dX2_readRules_1 : decode cX2_readRules 1 = .ok (.iconst 0, 1) := by decide +kernel
theorem dX2_readRules_2 : decode cX2_readRules 2 = .ok (.putfield 19, 3) := by decide +kernel
theorem dX2_readRules_5 : decode cX2_readRules 5 = .ok (.aload_n 0, 1) := by decide +kernel
theorem dX2_readRules_6 : decode cX2_readRules 6 = .ok (.iconst 0, 1) := by decide +kernel
theorem dX2_readRules_7 : decode cX2_readRules 7 = .ok (.putfield 22, 3) := by decide +kernel
theorem dX2_readRules_10 : decode cX2_readRules 10 = .ok (.iconst 0, 1) := by decide +kernel
theorem dX2_readRules_11 : decode cX2_readRules 11 = .ok (.istore_n 1, 1) := by decide +kernel
theorem dX2_readRules_12 : decode cX2_readRules 12 = .ok (.iload_n 1, 1) := by decide +kernel
theorem dX2_readRules_13 : decode cX2_readRules 13 = .ok (.iconst 5, 1) := by decide +kernel
theorem dX2_readRules_14 : decode cX2_readRules 14 = .ok (.if_icmp .ge 93, 3) := by decide +kernel
theorem dX2_readRules_17 : decode cX2_readRules 17 = .ok (.aload_n 0, 1) := by decide +kernel
theorem dX2_readRules_18 : decode cX2_readRules 18 = .ok (.iload_n 1, 1) := by decide +kernel
theorem dX2_readRules_19 : decode cX2_readRules 19 = .ok (.invokevirtual 37, 3) := by decide +kernel
theorem dX2_readRules_22 : decode cX2_readRules 22 = .ok (.ifCond .eq 37, 3) := by decide +kernel
theorem dX2_readRules_25 : decode cX2_readRules 25 = .ok (.aload_n 0, 1) := by decide +kernel
theorem dX2_readRules_26 : decode cX2_readRules 26 = .ok (.bipush 44, 2) := by decide +kernel
theorem dX2_readRules_28 : decode cX2_readRules 28 = .ok (.invokevirtual 41, 3) := by decide +kernel
theorem dX2_readRules_31 : decode cX2_readRules 31 = .ok (.ifCond .eq 28, 3) := by decide +kernel
theorem dX2_readRules_34 : decode cX2_readRules 34 = .ok (.aload_n 0, 1) := by decide +kernel
theorem dX2_readRules_35 : decode cX2_readRules 35 = .ok (.iload_n 1, 1) := by decide +kernel
theorem dX2_readRules_36 : decode cX2_readRules 36 = .ok (.invokevirtual 45, 3) := by decide +kernel
theorem dX2_readRules_39 : decode cX2_readRules 39 = .ok (.ifCond .eq 20, 3) := by decide +kernel
theorem dX2_readRules_42 : decode cX2_readRules 42 = .ok (.aload_n 0, 1) := by decide +kernel
theorem dX2_readRules_43 : decode cX2_readRules 43 = .ok (.bipush 44, 2) := by decide +kernel
theorem dX2_readRules_45 : decode cX2_readRules 45 = .ok (.invokevirtual 41, 3) := by decide +kernel
theorem dX2_readRules_48 : decode cX2_readRules 48 = .ok (.ifCond .eq 11, 3) := by decide +kernel
theorem dX2_readRules_51 : decode cX2_readRules 51 = .ok (.aload_n 0, 1) := by decide +kernel
theorem dX2_readRules_52 : decode cX2_readRules 52 = .ok (.iload_n 1, 1) := by decide +kernel
theorem dX2_readRules_53 : decode cX2_readRules 53 = .ok (.invokevirtual 48, 3) := by decide +kernel
theorem dX2_readRules_56 : decode cX2_readRules 56 = .ok (.ifCond .ne 8, 3) := by decide +kernel
theorem dX2_readRules_59 : decode cX2_readRules 59 = .ok (.aload_n 0, 1) := by decide +kernel
theorem dX2_readRules_60 : decode cX2_readRules 60 = .ok (.getfield 19, 3) := by decide +kernel
theorem dX2_readRules_63 : decode cX2_readRules 63 = .ok (.ireturn, 1) := by decide +kernel
theorem dX2_readRules_64 : decode cX2_readRules 64 = .ok (.aload_n 0, 1) := by decide +kernel
theorem dX2_readRules_65 : decode cX2_readRules 65 = .ok (.dup, 1) := by decide +kernel
theorem dX2_readRules_66 : decode cX2_readRules 66 = .ok (.getfield 22, 3) := by decide +kernel
theorem dX2_readRules_69 : decode cX2_readRules 69 = .ok (.iconst 1, 1) := by decide +kernel
theorem dX2_readRules_70 : decode cX2_readRules 70 = .ok (.iadd, 1) := by decide +kernel
theorem dX2_readRules_71 : decode cX2_readRules 71 = .ok (.putfield 22, 3) := by decide +kernel
theorem dX2_readRules_74 : decode cX2_readRules 74 = .ok (.aload_n 0, 1) := by decide +kernel
theorem dX2_readRules_75 : decode cX2_readRules 75 = .ok (.getfield 19, 3) := by decide +kernel
theorem dX2_readRules_78 : decode cX2_readRules 78 = .ok (.aload_n 0, 1) := by decide +kernel
theorem dX2_readRules_79 : decode cX2_readRules 79 = .ok (.getfield 15, 3) := by decide +kernel
theorem dX2_readRules_82 : decode cX2_readRules 82 = .ok (.if_icmp .ne 5, 3) := by decide +kernel
theorem dX2_readRules_85 : decode cX2_readRules 85 = .ok (.iconst (-1), 1) := by decide +kernel
theorem dX2_readRules_86 : decode cX2_readRules 86 = .ok (.ireturn, 1) := by decide +kernel
theorem dX2_readRules_87 : decode cX2_readRules 87 = .ok (.aload_n 0, 1) := by decide +kernel
theorem dX2_readRules_88 : decode cX2_readRules 88 = .ok (.bipush 59, 2) := by decide +kernel
theorem dX2_readRules_90 : decode cX2_readRules 90 = .ok (.invokevirtual 41, 3) := by decide +kernel
theorem dX2_readRules_93 : decode cX2_readRules 93 = .ok (.ifCond .ne 8, 3) := by decide +kernel
theorem dX2_readRules_96 : decode cX2_readRules 96 = .ok (.aload_n 0, 1) := by decide +kernel
theorem dX2_readRules_97 : decode cX2_readRules 97 = .ok (.getfield 19, 3) := by decide +kernel
theorem dX2_readRules_100 : decode cX2_readRules 100 = .ok (.ireturn, 1) := by decide +kernel
theorem dX2_readRules_101 : decode cX2_readRules 101 = .ok (.iinc 1 1, 3) := by decide +kernel
theorem dX2_readRules_104 : decode cX2_readRules 104 = .ok (.goto (-92), 3) := by decide +kernel
theorem dX2_readRules_107 : decode cX2_readRules 107 = .ok (.aload_n 0, 1) := by decide +kernel
theorem dX2_readRules_108 : decode cX2_readRules 108 = .ok (.getfield 19, 3) := by decide +kernel
theorem dX2_readRules_111 : decode cX2_readRules 111 = .ok (.ireturn, 1) := by decide +kernel
theorem dX2_sign_0 : decode cX2_sign 0 = .ok (.aload_n 0, 1) := by decide +kernel
theorem dX2_sign_1 : decode cX2_sign 1 = .ok (.getfield 19, 3) := by decide +kernel
theorem dX2_sign_4 : decode cX2_sign 4 = .ok (.ifCond .lt 35, 3) := by decide +kernel
theorem dX2_sign_7 : decode cX2_sign 7 = .ok (.aload_n 0, 1) := by decide +kernel
theorem dX2_sign_8 : decode cX2_sign 8 = .ok (.getfield 19, 3) := by decide +kernel
theorem dX2_sign_11 : decode cX2_sign 11 = .ok (.aload_n 0, 1) := by decide +kernel
theorem dX2_sign_12 : decode cX2_sign 12 = .ok (.getfield 15, 3) := by decide +kernel
theorem dX2_sign_15 : decode cX2_sign 15 = .ok (.if_icmp .ge 24, 3) := by decide +kernel
theorem dX2_sign_18 : decode cX2_sign 18 = .ok (.aload_n 0, 1) := by decide +kernel
theorem dX2_sign_19 : decode cX2_sign 19 = .ok (.getfield 19, 3) := by decide +kernel
theorem dX2_sign_22 : decode cX2_sign 22 = .ok (.bipush 60, 2) := by decide +kernel
theorem dX2_sign_24 : decode cX2_sign 24 = .ok (.if_icmp .ge 15, 3) := by decide +kernel
theorem dX2_sign_27 : decode cX2_sign 27 = .ok (.aload_n 0, 1) := by decide +kernel
theorem dX2_sign_28 : decode cX2_sign 28 = .ok (.getfield 11, 3) := by decide +kernel
theorem dX2_sign_31 : decode cX2_sign 31 = .ok (.aload_n 0, 1) := by decide +kernel
theorem dX2_sign_32 : decode cX2_sign 32 = .ok (.getfield 19, 3) := by decide +kernel
theorem dX2_sign_35 : decode cX2_sign 35 = .ok (.iaload, 1) := by decide +kernel
theorem dX2_sign_36 : decode cX2_sign 36 = .ok (.goto 4, 3) := by decide +kernel
theorem dX2_sign_39 : decode cX2_sign 39 = .ok (.iconst (-1), 1) := by decide +kernel
theorem dX2_sign_40 : decode cX2_sign 40 = .ok (.ireturn, 1) := by decide +kernel
theorem dX2_digit_0 : decode cX2_digit 0 = .ok (.aload_n 0, 1) := by decide +kernel
theorem dX2_digit_1 : decode cX2_digit 1 = .ok (.invokevirtual 51, 3) := by decide +kernel
theorem dX2_digit_4 : decode cX2_digit 4 = .ok (.istore_n 1, 1) := by decide +kernel
theorem dX2_digit_5 : decode cX2_digit 5 = .ok (.iload_n 1, 1) := by decide +kernel
theorem dX2_digit_6 : decode cX2_digit 6 = .ok (.bipush 48, 2) := by decide +kernel
theorem dX2_digit_8 : decode cX2_digit 8 = .ok (.if_icmp .lt 16, 3) := by decide +kernel
theorem dX2_digit_11 : decode cX2_digit 11 = .ok (.iload_n 1, 1) := by decide +kernel
theorem dX2_digit_12 : decode cX2_digit 12 = .ok (.bipush 57, 2) := by decide +kernel
theorem dX2_digit_14 : decode cX2_digit 14 = .ok (.if_icmp .gt 10, 3) := by decide +kernel
theorem dX2_digit_17 : decode cX2_digit 17 = .ok (.iload_n 1, 1) := by decide +kernel
theorem dX2_digit_18 : decode cX2_digit 18 = .ok (.bipush 48, 2) := by decide +kernel
theorem dX2_digit_20 : decode cX2_digit 20 = .ok (.isub, 1) := by decide +kernel
theorem dX2_digit_21 : decode cX2_digit 21 = .ok (.goto 4, 3) := by decide +kernel
theorem dX2_digit_24 : decode cX2_digit 24 = .ok (.iconst (-1), 1) := by decide +kernel
theorem dX2_digit_25 : decode cX2_digit 25 = .ok (.ireturn, 1) := by decide +kernel
theorem dX2_skip_0 : decode cX2_skip 0 = .ok (.aload_n 0, 1) := by decide +kernel
theorem dX2_skip_1 : decode cX2_skip 1 = .ok (.invokevirtual 51, 3) := by decide +kernel
theorem dX2_skip_4 : decode cX2_skip 4 = .ok (.iload_n 1, 1) := by decide +kernel
theorem dX2_skip_5 : decode cX2_skip 5 = .ok (.if_icmp .eq 5, 3) := by decide +kernel
theorem dX2_skip_8 : decode cX2_skip 8 = .ok (.iconst 0, 1) := by decide +kernel
theorem dX2_skip_9 : decode cX2_skip 9 = .ok (.ireturn, 1) := by decide +kernel
theorem dX2_skip_10 : decode cX2_skip 10 = .ok (.aload_n 0, 1) := by decide +kernel
theorem dX2_skip_11 : decode cX2_skip 11 = .ok (.dup, 1) := by decide +kernel
theorem dX2_skip_12 : decode cX2_skip 12 = .ok (.getfield 19, 3) := by decide +kernel
theorem dX2_skip_15 : decode cX2_skip 15 = .ok (.iconst 1, 1) := by decide +kernel
theorem dX2_skip_16 : decode cX2_skip 16 = .ok (.iadd, 1) := by decide +kernel
theorem dX2_skip_17 : decode cX2_skip 17 = .ok (.putfield 19, 3) := by decide +kernel
theorem dX2_skip_20 : decode cX2_skip 20 = .ok (.iconst 1, 1) := by decide +kernel
theorem dX2_skip_21 : decode cX2_skip 21 = .ok (.ireturn, 1) := by decide +kernel
theorem dX2_readEntry_0 : decode cX2_readEntry 0 = .ok (.iconst 0, 1) := by decide +kernel
theorem dX2_readEntry_1 : decode cX2_readEntry 1 = .ok (.istore_n 2, 1) := by decide +kernel
theorem dX2_readEntry_2 : decode cX2_readEntry 2 = .ok (.iconst 0, 1) := by decide +kernel
theorem dX2_readEntry_3 : decode cX2_readEntry 3 = .ok (.istore_n 3, 1) := by decide +kernel
theorem dX2_readEntry_4 : decode cX2_readEntry 4 = .ok (.sipush 128, 3) := by decide +kernel
theorem dX2_readEntry_7 : decode cX2_readEntry 7 = .ok (.istore 4, 2) := by decide +kernel
theorem dX2_readEntry_9 : decode cX2_readEntry 9 = .ok (.iload 4, 2) := by decide +kernel
theorem dX2_readEntry_11 : decode cX2_readEntry 11 = .ok (.ifCond .le 83, 3) := by decide +kernel
theorem dX2_readEntry_14 : decode cX2_readEntry 14 = .ok (.aload_n 0, 1) := by decide +kernel
theorem dX2_readEntry_15 : decode cX2_readEntry 15 = .ok (.invokevirtual 51, 3) := by decide +kernel
theorem dX2_readEntry_18 : decode cX2_readEntry 18 = .ok (.istore 5, 2) := by decide +kernel
theorem dX2_readEntry_20 : decode cX2_readEntry 20 = .ok (.iload 5, 2) := by decide +kernel
theorem dX2_readEntry_22 : decode cX2_readEntry 22 = .ok (.bipush 48, 2) := by decide +kernel
theorem dX2_readEntry_24 : decode cX2_readEntry 24 = .ok (.if_icmp .eq 19, 3) := by decide +kernel
theorem dX2_readEntry_27 : decode cX2_readEntry 27 = .ok (.iload 5, 2) := by decide +kernel
theorem dX2_readEntry_29 : decode cX2_readEntry 29 = .ok (.bipush 49, 2) := by decide +kernel
theorem dX2_readEntry_31 : decode cX2_readEntry 31 = .ok (.if_icmp .eq 12, 3) := by decide +kernel
theorem dX2_readEntry_34 : decode cX2_readEntry 34 = .ok (.iload 5, 2) := by decide +kernel
theorem dX2_readEntry_36 : decode cX2_readEntry 36 = .ok (.bipush 42, 2) := by decide +kernel
theorem dX2_readEntry_38 : decode cX2_readEntry 38 = .ok (.if_icmp .eq 5, 3) := by decide +kernel
theorem dX2_readEntry_41 : decode cX2_readEntry 41 = .ok (.iconst 0, 1) := by decide +kernel
theorem dX2_readEntry_42 : decode cX2_readEntry 42 = .ok (.ireturn, 1) := by decide +kernel
theorem dX2_readEntry_43 : decode cX2_readEntry 43 = .ok (.iload_n 2, 1) := by decide +kernel
theorem dX2_readEntry_44 : decode cX2_readEntry 44 = .ok (.iload 5, 2) := by decide +kernel
theorem dX2_readEntry_46 : decode cX2_readEntry 46 = .ok (.bipush 42, 2) := by decide +kernel
theorem dX2_readEntry_48 : decode cX2_readEntry 48 = .ok (.if_icmp .ne 7, 3) := by decide +kernel
theorem dX2_readEntry_51 : decode cX2_readEntry 51 = .ok (.iconst 0, 1) := by decide +kernel
theorem dX2_readEntry_52 : decode cX2_readEntry 52 = .ok (.goto 5, 3) := by decide +kernel
theorem dX2_readEntry_55 : decode cX2_readEntry 55 = .ok (.iload 4, 2) := by decide +kernel
theorem dX2_readEntry_57 : decode cX2_readEntry 57 = .ok (.iadd, 1) := by decide +kernel
theorem dX2_readEntry_58 : decode cX2_readEntry 58 = .ok (.istore_n 2, 1) := by decide +kernel
theorem dX2_readEntry_59 : decode cX2_readEntry 59 = .ok (.iload_n 3, 1) := by decide +kernel
theorem dX2_readEntry_60 : decode cX2_readEntry 60 = .ok (.iload 5, 2) := by decide +kernel
theorem dX2_readEntry_62 : decode cX2_readEntry 62 = .ok (.bipush 49, 2) := by decide +kernel
theorem dX2_readEntry_64 : decode cX2_readEntry 64 = .ok (.if_icmp .ne 8, 3) := by decide +kernel
theorem dX2_readEntry_67 : decode cX2_readEntry 67 = .ok (.iload 4, 2) := by decide +kernel
theorem dX2_readEntry_69 : decode cX2_readEntry 69 = .ok (.goto 4, 3) := by decide +kernel
theorem dX2_readEntry_72 : decode cX2_readEntry 72 = .ok (.iconst 0, 1) := by decide +kernel
theorem dX2_readEntry_73 : decode cX2_readEntry 73 = .ok (.iadd, 1) := by decide +kernel
theorem dX2_readEntry_74 : decode cX2_readEntry 74 = .ok (.istore_n 3, 1) := by decide +kernel
theorem dX2_readEntry_75 : decode cX2_readEntry 75 = .ok (.aload_n 0, 1) := by decide +kernel
theorem dX2_readEntry_76 : decode cX2_readEntry 76 = .ok (.dup, 1) := by decide +kernel
theorem dX2_readEntry_77 : decode cX2_readEntry 77 = .ok (.getfield 19, 3) := by decide +kernel
theorem dX2_readEntry_80 : decode cX2_readEntry 80 = .ok (.iconst 1, 1) := by decide +kernel
theorem dX2_readEntry_81 : decode cX2_readEntry 81 = .ok (.iadd, 1) := by decide +kernel
theorem dX2_readEntry_82 : decode cX2_readEntry 82 = .ok (.putfield 19, 3) := by decide +kernel
theorem dX2_readEntry_85 : decode cX2_readEntry 85 = .ok (.iload 4, 2) := by decide +kernel
theorem dX2_readEntry_87 : decode cX2_readEntry 87 = .ok (.iconst 2, 1) := by decide +kernel
theorem dX2_readEntry_88 : decode cX2_readEntry 88 = .ok (.idiv, 1) := by decide +kernel
theorem dX2_readEntry_89 : decode cX2_readEntry 89 = .ok (.istore 4, 2) := by decide +kernel
theorem dX2_readEntry_91 : decode cX2_readEntry 91 = .ok (.goto (-82), 3) := by decide +kernel
theorem dX2_readEntry_94 : decode cX2_readEntry 94 = .ok (.iload_n 1, 1) := by decide +kernel
theorem dX2_readEntry_95 : decode cX2_readEntry 95 = .ok (.ifCond .lt 22, 3) := by decide +kernel
theorem dX2_readEntry_98 : decode cX2_readEntry 98 = .ok (.iload_n 1, 1) := by decide +kernel
theorem dX2_readEntry_99 : decode cX2_readEntry 99 = .ok (.iconst 5, 1) := by decide +kernel
theorem dX2_readEntry_100 : decode cX2_readEntry 100 = .ok (.if_icmp .ge 17, 3) := by decide +kernel
theorem dX2_readEntry_103 : decode cX2_readEntry 103 = .ok (.aload_n 0, 1) := by decide +kernel
theorem dX2_readEntry_104 : decode cX2_readEntry 104 = .ok (.getfield 25, 3) := by decide +kernel
theorem dX2_readEntry_107 : decode cX2_readEntry 107 = .ok (.iload_n 1, 1) := by decide +kernel
theorem dX2_readEntry_108 : decode cX2_readEntry 108 = .ok (.iload_n 2, 1) := by decide +kernel
theorem dX2_readEntry_109 : decode cX2_readEntry 109 = .ok (.iastore, 1) := by decide +kernel
theorem dX2_readEntry_110 : decode cX2_readEntry 110 = .ok (.aload_n 0, 1) := by decide +kernel
theorem dX2_readEntry_111 : decode cX2_readEntry 111 = .ok (.getfield 28, 3) := by decide +kernel
theorem dX2_readEntry_114 : decode cX2_readEntry 114 = .ok (.iload_n 1, 1) := by decide +kernel
theorem dX2_readEntry_115 : decode cX2_readEntry 115 = .ok (.iload_n 3, 1) := by decide +kernel
theorem dX2_readEntry_116 : decode cX2_readEntry 116 = .ok (.iastore, 1) := by decide +kernel
theorem dX2_readEntry_117 : decode cX2_readEntry 117 = .ok (.iconst 1, 1) := by decide +kernel
theorem dX2_readEntry_118 : decode cX2_readEntry 118 = .ok (.ireturn, 1) := by decide +kernel
theorem dX2_readRank_0 : decode cX2_readRank 0 = .ok (.aload_n 0, 1) := by decide +kernel
theorem dX2_readRank_1 : decode cX2_readRank 1 = .ok (.invokevirtual 55, 3) := by decide +kernel
theorem dX2_readRank_4 : decode cX2_readRank 4 = .ok (.istore_n 2, 1) := by decide +kernel
theorem dX2_readRank_5 : decode cX2_readRank 5 = .ok (.iload_n 2, 1) := by decide +kernel
theorem dX2_readRank_6 : decode cX2_readRank 6 = .ok (.ifCond .ge 5, 3) := by decide +kernel
theorem dX2_readRank_9 : decode cX2_readRank 9 = .ok (.iconst 0, 1) := by decide +kernel
theorem dX2_readRank_10 : decode cX2_readRank 10 = .ok (.ireturn, 1) := by decide +kernel
theorem dX2_readRank_11 : decode cX2_readRank 11 = .ok (.aload_n 0, 1) := by decide +kernel
theorem dX2_readRank_12 : decode cX2_readRank 12 = .ok (.dup, 1) := by decide +kernel
theorem dX2_readRank_13 : decode cX2_readRank 13 = .ok (.getfield 19, 3) := by decide +kernel
theorem dX2_readRank_16 : decode cX2_readRank 16 = .ok (.iconst 1, 1) := by decide +kernel
theorem dX2_readRank_17 : decode cX2_readRank 17 = .ok (.iadd, 1) := by decide +kernel
theorem dX2_readRank_18 : decode cX2_readRank 18 = .ok (.putfield 19, 3) := by decide +kernel
theorem dX2_readRank_21 : decode cX2_readRank 21 = .ok (.aload_n 0, 1) := by decide +kernel
theorem dX2_readRank_22 : decode cX2_readRank 22 = .ok (.invokevirtual 55, 3) := by decide +kernel
theorem dX2_readRank_25 : decode cX2_readRank 25 = .ok (.istore_n 3, 1) := by decide +kernel
theorem dX2_readRank_26 : decode cX2_readRank 26 = .ok (.iload_n 3, 1) := by decide +kernel
theorem dX2_readRank_27 : decode cX2_readRank 27 = .ok (.ifCond .lt 20, 3) := by decide +kernel
theorem dX2_readRank_30 : decode cX2_readRank 30 = .ok (.bipush 10, 2) := by decide +kernel
theorem dX2_readRank_32 : decode cX2_readRank 32 = .ok (.iload_n 2, 1) := by decide +kernel
theorem dX2_readRank_33 : decode cX2_readRank 33 = .ok (.imul, 1) := by decide +kernel
theorem dX2_readRank_34 : decode cX2_readRank 34 = .ok (.iload_n 3, 1) := by decide +kernel
theorem dX2_readRank_35 : decode cX2_readRank 35 = .ok (.iadd, 1) := by decide +kernel
theorem dX2_readRank_36 : decode cX2_readRank 36 = .ok (.istore_n 2, 1) := by decide +kernel
theorem dX2_readRank_37 : decode cX2_readRank 37 = .ok (.aload_n 0, 1) := by decide +kernel
theorem dX2_readRank_38 : decode cX2_readRank 38 = .ok (.dup, 1) := by decide +kernel
theorem dX2_readRank_39 : decode cX2_readRank 39 = .ok (.getfield 19, 3) := by decide +kernel
theorem dX2_readRank_42 : decode cX2_readRank 42 = .ok (.iconst 1, 1) := by decide +kernel
theorem dX2_readRank_43 : decode cX2_readRank 43 = .ok (.iadd, 1) := by decide +kernel
theorem dX2_readRank_44 : decode cX2_readRank 44 = .ok (.putfield 19, 3) := by decide +kernel
theorem dX2_readRank_47 : decode cX2_readRank 47 = .ok (.iload_n 1, 1) := by decide +kernel
theorem dX2_readRank_48 : decode cX2_readRank 48 = .ok (.ifCond .lt 15, 3) := by decide +kernel
theorem dX2_readRank_51 : decode cX2_readRank 51 = .ok (.iload_n 1, 1) := by decide +kernel
theorem dX2_readRank_52 : decode cX2_readRank 52 = .ok (.iconst 5, 1) := by decide +kernel
theorem dX2_readRank_53 : decode cX2_readRank 53 = .ok (.if_icmp .ge 10, 3) := by decide +kernel
theorem dX2_readRank_56 : decode cX2_readRank 56 = .ok (.aload_n 0, 1) := by decide +kernel
theorem dX2_readRank_57 : decode cX2_readRank 57 = .ok (.getfield 31, 3) := by decide +kernel
theorem dX2_readRank_60 : decode cX2_readRank 60 = .ok (.iload_n 1, 1) := by decide +kernel
theorem dX2_readRank_61 : decode cX2_readRank 61 = .ok (.iload_n 2, 1) := by decide +kernel
theorem dX2_readRank_62 : decode cX2_readRank 62 = .ok (.iastore, 1) := by decide +kernel
theorem dX2_readRank_63 : decode cX2_readRank 63 = .ok (.iconst 1, 1) := by decide +kernel
theorem dX2_readRank_64 : decode cX2_readRank 64 = .ok (.ireturn, 1) := by decide +kernel
theorem dX2_readAction_0 : decode cX2_readAction 0 = .ok (.aload_n 0, 1) := by decide +kernel
theorem dX2_readAction_1 : decode cX2_readAction 1 = .ok (.invokevirtual 55, 3) := by decide +kernel
theorem dX2_readAction_4 : decode cX2_readAction 4 = .ok (.istore_n 2, 1) := by decide +kernel
theorem dX2_readAction_5 : decode cX2_readAction 5 = .ok (.iload_n 2, 1) := by decide +kernel
theorem dX2_readAction_6 : decode cX2_readAction 6 = .ok (.ifCond .ge 5, 3) := by decide +kernel
theorem dX2_readAction_9 : decode cX2_readAction 9 = .ok (.iconst 0, 1) := by decide +kernel
theorem dX2_readAction_10 : decode cX2_readAction 10 = .ok (.ireturn, 1) := by decide +kernel
theorem dX2_readAction_11 : decode cX2_readAction 11 = .ok (.aload_n 0, 1) := by decide +kernel
theorem dX2_readAction_12 : decode cX2_readAction 12 = .ok (.dup, 1) := by decide +kernel
theorem dX2_readAction_13 : decode cX2_readAction 13 = .ok (.getfield 19, 3) := by decide +kernel
theorem dX2_readAction_16 : decode cX2_readAction 16 = .ok (.iconst 1, 1) := by decide +kernel
theorem dX2_readAction_17 : decode cX2_readAction 17 = .ok (.iadd, 1) := by decide +kernel
theorem dX2_readAction_18 : decode cX2_readAction 18 = .ok (.putfield 19, 3) := by decide +kernel
theorem dX2_readAction_21 : decode cX2_readAction 21 = .ok (.iload_n 1, 1) := by decide +kernel
theorem dX2_readAction_22 : decode cX2_readAction 22 = .ok (.ifCond .lt 15, 3) := by decide +kernel
theorem dX2_readAction_25 : decode cX2_readAction 25 = .ok (.iload_n 1, 1) := by decide +kernel
theorem dX2_readAction_26 : decode cX2_readAction 26 = .ok (.iconst 5, 1) := by decide +kernel
theorem dX2_readAction_27 : decode cX2_readAction 27 = .ok (.if_icmp .ge 10, 3) := by decide +kernel
theorem dX2_readAction_30 : decode cX2_readAction 30 = .ok (.aload_n 0, 1) := by decide +kernel
theorem dX2_readAction_31 : decode cX2_readAction 31 = .ok (.getfield 34, 3) := by decide +kernel
theorem dX2_readAction_34 : decode cX2_readAction 34 = .ok (.iload_n 1, 1) := by decide +kernel
theorem dX2_readAction_35 : decode cX2_readAction 35 = .ok (.iload_n 2, 1) := by decide +kernel
theorem dX2_readAction_36 : decode cX2_readAction 36 = .ok (.iastore, 1) := by decide +kernel
theorem dX2_readAction_37 : decode cX2_readAction 37 = .ok (.iconst 1, 1) := by decide +kernel
theorem dX2_readAction_38 : decode cX2_readAction 38 = .ok (.ireturn, 1) := by decide +kernel
theorem dX3_init_0 : decode cX3_init 0 = .ok (.aload_n 0, 1) := by decide +kernel
theorem dX3_init_1 : decode cX3_init 1 = .ok (.invokespecial 1, 3) := by decide +kernel
theorem dX3_init_4 : decode cX3_init 4 = .ok (.aload_n 0, 1) := by decide +kernel
theorem dX3_init_5 : decode cX3_init 5 = .ok (.new 7, 3) := by decide +kernel
theorem dX3_init_8 : decode cX3_init 8 = .ok (.dup, 1) := by decide +kernel
theorem dX3_init_9 : decode cX3_init 9 = .ok (.invokespecial 9, 3) := by decide +kernel
theorem dX3_init_12 : decode cX3_init 12 = .ok (.putfield 10, 3) := by decide +kernel
theorem dX3_init_15 : decode cX3_init 15 = .ok (.aload_n 0, 1) := by decide +kernel
theorem dX3_init_16 : decode cX3_init 16 = .ok (.new 7, 3) := by decide +kernel
theorem dX3_init_19 : decode cX3_init 19 = .ok (.dup, 1) := by decide +kernel
theorem dX3_init_20 : decode cX3_init 20 = .ok (.invokespecial 9, 3) := by decide +kernel
theorem dX3_init_23 : decode cX3_init 23 = .ok (.putfield 16, 3) := by decide +kernel
theorem dX3_init_26 : decode cX3_init 26 = .ok (.aload_n 0, 1) := by decide +kernel
theorem dX3_init_27 : decode cX3_init 27 = .ok (.new 19, 3) := by decide +kernel
theorem dX3_init_30 : decode cX3_init 30 = .ok (.dup, 1) := by decide +kernel
theorem dX3_init_31 : decode cX3_init 31 = .ok (.invokespecial 21, 3) := by decide +kernel
theorem dX3_init_34 : decode cX3_init 34 = .ok (.putfield 22, 3) := by decide +kernel
theorem dX3_init_37 : decode cX3_init 37 = .ok (.aload_n 0, 1) := by decide +kernel
theorem dX3_init_38 : decode cX3_init 38 = .ok (.new 26, 3) := by decide +kernel
theorem dX3_init_41 : decode cX3_init 41 = .ok (.dup, 1) := by decide +kernel
theorem dX3_init_42 : decode cX3_init 42 = .ok (.invokespecial 28, 3) := by decide +kernel
theorem dX3_init_45 : decode cX3_init 45 = .ok (.putfield 29, 3) := by decide +kernel
theorem dX3_init_48 : decode cX3_init 48 = .ok (.aload_n 0, 1) := by decide +kernel
theorem dX3_init_49 : decode cX3_init 49 = .ok (.iconst 0, 1) := by decide +kernel
theorem dX3_init_50 : decode cX3_init 50 = .ok (.putfield 33, 3) := by decide +kernel
theorem dX3_init_53 : decode cX3_init 53 = .ok (.return_, 1) := by decide +kernel
theorem dX3_addRule_0 : decode cX3_addRule 0 = .ok (.iload_n 1, 1) := by decide +kernel
theorem dX3_addRule_1 : decode cX3_addRule 1 = .ok (.invokestatic 37, 3) := by decide +kernel
theorem dX3_addRule_4 : decode cX3_addRule 4 = .ok (.ifCond .eq 25, 3) := by decide +kernel
theorem dX3_addRule_7 : decode cX3_addRule 7 = .ok (.iload_n 2, 1) := by decide +kernel
theorem dX3_addRule_8 : decode cX3_addRule 8 = .ok (.invokestatic 37, 3) := by decide +kernel
theorem dX3_addRule_11 : decode cX3_addRule 11 = .ok (.ifCond .eq 18, 3) := by decide +kernel
theorem dX3_addRule_14 : decode cX3_addRule 14 = .ok (.iload_n 3, 1) := by decide +kernel
theorem dX3_addRule_15 : decode cX3_addRule 15 = .ok (.invokestatic 41, 3) := by decide +kernel
theorem dX3_addRule_18 : decode cX3_addRule 18 = .ok (.ifCond .eq 11, 3) := by decide +kernel
theorem dX3_addRule_21 : decode cX3_addRule 21 = .ok (.iload 4, 2) := by decide +kernel
theorem dX3_addRule_23 : decode cX3_addRule 23 = .ok (.invokestatic 44, 3) := by decide +kernel
theorem dX3_addRule_26 : decode cX3_addRule 26 = .ok (.ifCond .ne 6, 3) := by decide +kernel
theorem dX3_addRule_29 : decode cX3_addRule 29 = .ok (.bipush (-2), 2) := by decide +kernel
theorem dX3_addRule_31 : decode cX3_addRule 31 = .ok (.ireturn, 1) := by decide +kernel
theorem dX3_addRule_32 : decode cX3_addRule 32 = .ok (.aload_n 0, 1) := by decide +kernel
theorem dX3_addRule_33 : decode cX3_addRule 33 = .ok (.getfield 10, 3) := by decide +kernel
theorem dX3_addRule_36 : decode cX3_addRule 36 = .ok (.invokevirtual 47, 3) := by decide +kernel
theorem dX3_addRule_39 : decode cX3_addRule 39 = .ok (.ifCond .ne 6, 3) := by decide +kernel
theorem dX3_addRule_42 : decode cX3_addRule 42 = .ok (.bipush (-3), 2) := by decide +kernel
theorem dX3_addRule_44 : decode cX3_addRule 44 = .ok (.ireturn, 1) := by decide +kernel
theorem dX3_addRule_45 : decode cX3_addRule 45 = .ok (.aload_n 0, 1) := by decide +kernel
theorem dX3_addRule_46 : decode cX3_addRule 46 = .ok (.getfield 22, 3) := by decide +kernel
theorem dX3_addRule_49 : decode cX3_addRule 49 = .ok (.aload_n 0, 1) := by decide +kernel
theorem dX3_addRule_50 : decode cX3_addRule 50 = .ok (.getfield 10, 3) := by decide +kernel
theorem dX3_addRule_53 : decode cX3_addRule 53 = .ok (.invokevirtual 51, 3) := by decide +kernel
theorem dX3_addRule_56 : decode cX3_addRule 56 = .ok (.aload_n 0, 1) := by decide +kernel
theorem dX3_addRule_57 : decode cX3_addRule 57 = .ok (.getfield 10, 3) := by decide +kernel
theorem dX3_addRule_60 : decode cX3_addRule 60 = .ok (.iload_n 1, 1) := by decide +kernel
theorem dX3_addRule_61 : decode cX3_addRule 61 = .ok (.iload_n 2, 1) := by decide +kernel
theorem dX3_addRule_62 : decode cX3_addRule 62 = .ok (.iload_n 3, 1) := by decide +kernel
theorem dX3_addRule_63 : decode cX3_addRule 63 = .ok (.iload 4, 2) := by decide +kernel
theorem dX3_addRule_65 : decode cX3_addRule 65 = .ok (.invokevirtual 55, 3) := by decide +kernel
theorem dX3_addRule_68 : decode cX3_addRule 68 = .ok (.ireturn, 1) := by decide +kernel
theorem dX3_addRange_0 : decode cX3_addRange 0 = .ok (.iload_n 1, 1) := by decide +kernel
theorem dX3_addRange_1 : decode cX3_addRange 1 = .ok (.iload_n 2, 1) := by decide +kernel
theorem dX3_addRange_2 : decode cX3_addRange 2 = .ok (.invokestatic 59, 3) := by decide +kernel
theorem dX3_addRange_5 : decode cX3_addRange 5 = .ok (.ifCond .eq 18, 3) := by decide +kernel
theorem dX3_addRange_8 : decode cX3_addRange 8 = .ok (.iload_n 3, 1) := by decide +kernel
theorem dX3_addRange_9 : decode cX3_addRange 9 = .ok (.invokestatic 41, 3) := by decide +kernel
theorem dX3_addRange_12 : decode cX3_addRange 12 = .ok (.ifCond .eq 11, 3) := by decide +kernel
theorem dX3_addRange_15 : decode cX3_addRange 15 = .ok (.iload 4, 2) := by decide +kernel
theorem dX3_addRange_17 : decode cX3_addRange 17 = .ok (.invokestatic 44, 3) := by decide +kernel
theorem dX3_addRange_20 : decode cX3_addRange 20 = .ok (.ifCond .ne 6, 3) := by decide +kernel
theorem dX3_addRange_23 : decode cX3_addRange 23 = .ok (.bipush (-2), 2) := by decide +kernel
theorem dX3_addRange_25 : decode cX3_addRange 25 = .ok (.ireturn, 1) := by decide +kernel
theorem dX3_addRange_26 : decode cX3_addRange 26 = .ok (.aload_n 0, 1) := by decide +kernel
theorem dX3_addRange_27 : decode cX3_addRange 27 = .ok (.getfield 10, 3) := by decide +kernel
theorem dX3_addRange_30 : decode cX3_addRange 30 = .ok (.invokevirtual 47, 3) := by decide +kernel
theorem dX3_addRange_33 : decode cX3_addRange 33 = .ok (.iload_n 1, 1) := by decide +kernel
theorem dX3_addRange_34 : decode cX3_addRange 34 = .ok (.iload_n 2, 1) := by decide +kernel
theorem dX3_addRange_35 : decode cX3_addRange 35 = .ok (.invokestatic 63, 3) := by decide +kernel
theorem dX3_addRange_38 : decode cX3_addRange 38 = .ok (.if_icmp .ge 6, 3) := by decide +kernel
theorem dX3_addRange_41 : decode cX3_addRange 41 = .ok (.bipush (-3), 2) := by decide +kernel
theorem dX3_addRange_43 : decode cX3_addRange 43 = .ok (.ireturn, 1) := by decide +kernel
theorem dX3_addRange_44 : decode cX3_addRange 44 = .ok (.aload_n 0, 1) := by decide +kernel
theorem dX3_addRange_45 : decode cX3_addRange 45 = .ok (.getfield 22, 3) := by decide +kernel
theorem dX3_addRange_48 : decode cX3_addRange 48 = .ok (.aload_n 0, 1) := by decide +kernel
theorem dX3_addRange_49 : decode cX3_addRange 49 = .ok (.getfield 10, 3) := by decide +kernel
theorem dX3_addRange_52 : decode cX3_addRange 52 = .ok (.invokevirtual 51, 3) := by decide +kernel
theorem dX3_addRange_55 : decode cX3_addRange 55 = .ok (.aload_n 0, 1) := by decide +kernel
theorem dX3_addRange_56 : decode cX3_addRange 56 = .ok (.getfield 10, 3) := by decide +kernel
theorem dX3_addRange_59 : decode cX3_addRange 59 = .ok (.iload_n 1, 1) := by decide +kernel
theorem dX3_addRange_60 : decode cX3_addRange 60 = .ok (.iload_n 2, 1) := by decide +kernel
theorem dX3_addRange_61 : decode cX3_addRange 61 = .ok (.iload_n 3, 1) := by decide +kernel
theorem dX3_addRange_62 : decode cX3_addRange 62 = .ok (.iload 4, 2) := by decide +kernel
theorem dX3_addRange_64 : decode cX3_addRange 64 = .ok (.invokevirtual 67, 3) := by decide +kernel
theorem dX3_addRange_67 : decode cX3_addRange 67 = .ok (.ireturn, 1) := by decide +kernel
theorem dX3_remove_0 : decode cX3_remove 0 = .ok (.aload_n 0, 1) := by decide +kernel
theorem dX3_remove_1 : decode cX3_remove 1 = .ok (.getfield 10, 3) := by decide +kernel
theorem dX3_remove_4 : decode cX3_remove 4 = .ok (.iload_n 1, 1) := by decide +kernel
theorem dX3_remove_5 : decode cX3_remove 5 = .ok (.invokevirtual 70, 3) := by decide +kernel
theorem dX3_remove_8 : decode cX3_remove 8 = .ok (.istore_n 2, 1) := by decide +kernel
theorem dX3_remove_9 : decode cX3_remove 9 = .ok (.iload_n 2, 1) := by decide +kernel
theorem dX3_remove_10 : decode cX3_remove 10 = .ok (.ifCond .ne 5, 3) := by decide +kernel
theorem dX3_remove_13 : decode cX3_remove 13 = .ok (.iconst (-1), 1) := by decide +kernel
theorem dX3_remove_14 : decode cX3_remove 14 = .ok (.ireturn, 1) := by decide +kernel
theorem dX3_remove_15 : decode cX3_remove 15 = .ok (.aload_n 0, 1) := by decide +kernel
theorem dX3_remove_16 : decode cX3_remove 16 = .ok (.getfield 22, 3) := by decide +kernel
theorem dX3_remove_19 : decode cX3_remove 19 = .ok (.aload_n 0, 1) := by decide +kernel
theorem dX3_remove_20 : decode cX3_remove 20 = .ok (.getfield 10, 3) := by decide +kernel
theorem dX3_remove_23 : decode cX3_remove 23 = .ok (.invokevirtual 51, 3) := by decide +kernel
theorem dX3_remove_26 : decode cX3_remove 26 = .ok (.aload_n 0, 1) := by decide +kernel
theorem dX3_remove_27 : decode cX3_remove 27 = .ok (.getfield 10, 3) := by decide +kernel
theorem dX3_remove_30 : decode cX3_remove 30 = .ok (.iload_n 1, 1) := by decide +kernel
theorem dX3_remove_31 : decode cX3_remove 31 = .ok (.invokevirtual 74, 3) := by decide +kernel
theorem dX3_remove_34 : decode cX3_remove 34 = .ok (.iload_n 2, 1) := by decide +kernel
theorem dX3_remove_35 : decode cX3_remove 35 = .ok (.ireturn, 1) := by decide +kernel
theorem dX3_setPlacing_0 : decode cX3_setPlacing 0 = .ok (.iload_n 1, 1) := by decide +kernel
theorem dX3_setPlacing_1 : decode cX3_setPlacing 1 = .ok (.ifCond .lt 8, 3) := by decide +kernel
theorem dX3_setPlacing_4 : decode cX3_setPlacing 4 = .ok (.iload_n 1, 1) := by decide +kernel
theorem dX3_setPlacing_5 : decode cX3_setPlacing 5 = .ok (.iconst 3, 1) := by decide +kernel
theorem dX3_setPlacing_6 : decode cX3_setPlacing 6 = .ok (.if_icmp .lt 6, 3) := by decide +kernel
theorem dX3_setPlacing_9 : decode cX3_setPlacing 9 = .ok (.bipush (-2), 2) := by decide +kernel
theorem dX3_setPlacing_11 : decode cX3_setPlacing 11 = .ok (.ireturn, 1) := by decide +kernel
theorem dX3_setPlacing_12 : decode cX3_setPlacing 12 = .ok (.aload_n 0, 1) := by decide +kernel
theorem dX3_setPlacing_13 : decode cX3_setPlacing 13 = .ok (.getfield 10, 3) := by decide +kernel
theorem dX3_setPlacing_16 : decode cX3_setPlacing 16 = .ok (.getfield 78, 3) := by decide +kernel
theorem dX3_setPlacing_19 : decode cX3_setPlacing 19 = .ok (.istore_n 2, 1) := by decide +kernel
theorem dX3_setPlacing_20 : decode cX3_setPlacing 20 = .ok (.iload_n 1, 1) := by decide +kernel
theorem dX3_setPlacing_21 : decode cX3_setPlacing 21 = .ok (.iload_n 2, 1) := by decide +kernel
theorem dX3_setPlacing_22 : decode cX3_setPlacing 22 = .ok (.if_icmp .ne 6, 3) := by decide +kernel
theorem dX3_setPlacing_25 : decode cX3_setPlacing 25 = .ok (.bipush (-4), 2) := by decide +kernel
theorem dX3_setPlacing_27 : decode cX3_setPlacing 27 = .ok (.ireturn, 1) := by decide +kernel
theorem dX3_setPlacing_28 : decode cX3_setPlacing 28 = .ok (.aload_n 0, 1) := by decide +kernel
theorem dX3_setPlacing_29 : decode cX3_setPlacing 29 = .ok (.getfield 22, 3) := by decide +kernel
theorem dX3_setPlacing_32 : decode cX3_setPlacing 32 = .ok (.aload_n 0, 1) := by decide +kernel
theorem dX3_setPlacing_33 : decode cX3_setPlacing 33 = .ok (.getfield 10, 3) := by decide +kernel
theorem dX3_setPlacing_36 : decode cX3_setPlacing 36 = .ok (.invokevirtual 51, 3) := by decide +kernel
theorem dX3_setPlacing_39 : decode cX3_setPlacing 39 = .ok (.aload_n 0, 1) := by decide +kernel
theorem dX3_setPlacing_40 : decode cX3_setPlacing 40 = .ok (.getfield 10, 3) := by decide +kernel
theorem dX3_setPlacing_43 : decode cX3_setPlacing 43 = .ok (.iload_n 1, 1) := by decide +kernel
theorem dX3_setPlacing_44 : decode cX3_setPlacing 44 = .ok (.putfield 78, 3) := by decide +kernel
theorem dX3_setPlacing_47 : decode cX3_setPlacing 47 = .ok (.iload_n 2, 1) := by decide +kernel
theorem dX3_setPlacing_48 : decode cX3_setPlacing 48 = .ok (.ireturn, 1) := by decide +kernel
theorem dX3_compact_0 : decode cX3_compact 0 = .ok (.aload_n 0, 1) := by decide +kernel
theorem dX3_compact_1 : decode cX3_compact 1 = .ok (.bipush 32, 2) := by decide +kernel
theorem dX3_compact_3 : decode cX3_compact 3 = .ok (.invokevirtual 82, 3) := by decide +kernel
theorem dX3_compact_6 : decode cX3_compact 6 = .ok (.ireturn, 1) := by decide +kernel
theorem dX3_spread_0 : decode cX3_spread 0 = .ok (.aload_n 0, 1) := by decide +kernel
theorem dX3_spread_1 : decode cX3_spread 1 = .ok (.aload_n 0, 1) := by decide +kernel
theorem dX3_spread_2 : decode cX3_spread 2 = .ok (.getfield 10, 3) := by decide +kernel
theorem dX3_spread_5 : decode cX3_spread 5 = .ok (.invokevirtual 85, 3) := by decide +kernel
theorem dX3_spread_8 : decode cX3_spread 8 = .ok (.invokevirtual 82, 3) := by decide +kernel
theorem dX3_spread_11 : decode cX3_spread 11 = .ok (.ireturn, 1) := by decide +kernel
theorem dX3_search_0 : decode cX3_search 0 = .ok (.iload_n 1, 1) := by decide +kernel
theorem dX3_search_1 : decode cX3_search 1 = .ok (.invokestatic 37, 3) := by decide +kernel
theorem dX3_search_4 : decode cX3_search 4 = .ok (.ifCond .ne 6, 3) := by decide +kernel
theorem dX3_search_7 : decode cX3_search 7 = .ok (.bipush (-2), 2) := by decide +kernel
theorem dX3_search_9 : decode cX3_search 9 = .ok (.ireturn, 1) := by decide +kernel
theorem dX3_search_10 : decode cX3_search 10 = .ok (.aload_n 0, 1) := by decide +kernel
theorem dX3_search_11 : decode cX3_search 11 = .ok (.getfield 10, 3) := by decide +kernel
theorem dX3_search_14 : decode cX3_search 14 = .ok (.iload_n 1, 1) := by decide +kernel
theorem dX3_search_15 : decode cX3_search 15 = .ok (.invokevirtual 88, 3) := by decide +kernel
theorem dX3_search_18 : decode cX3_search 18 = .ok (.istore_n 2, 1) := by decide +kernel
theorem dX3_search_19 : decode cX3_search 19 = .ok (.iload_n 2, 1) := by decide +kernel
theorem dX3_search_20 : decode cX3_search 20 = .ok (.iconst (-1), 1) := by decide +kernel
theorem dX3_search_21 : decode cX3_search 21 = .ok (.if_icmp .ne 6, 3) := by decide +kernel
theorem dX3_search_24 : decode cX3_search 24 = .ok (.bipush (-4), 2) := by decide +kernel
theorem dX3_search_26 : decode cX3_search 26 = .ok (.ireturn, 1) := by decide +kernel
theorem dX3_search_27 : decode cX3_search 27 = .ok (.aload_n 0, 1) := by decide +kernel
theorem dX3_search_28 : decode cX3_search 28 = .ok (.getfield 22, 3) := by decide +kernel
theorem dX3_search_31 : decode cX3_search 31 = .ok (.aload_n 0, 1) := by decide +kernel
theorem dX3_search_32 : decode cX3_search 32 = .ok (.getfield 10, 3) := by decide +kernel
theorem dX3_search_35 : decode cX3_search 35 = .ok (.invokevirtual 51, 3) := by decide +kernel
theorem dX3_search_38 : decode cX3_search 38 = .ok (.aload_n 0, 1) := by decide +kernel
theorem dX3_search_39 : decode cX3_search 39 = .ok (.getfield 10, 3) := by decide +kernel
theorem dX3_search_42 : decode cX3_search 42 = .ok (.iload_n 1, 1) := by decide +kernel
theorem dX3_search_43 : decode cX3_search 43 = .ok (.iload_n 2, 1) := by decide +kernel
theorem dX3_search_44 : decode cX3_search 44 = .ok (.invokevirtual 91, 3) := by decide +kernel
theorem dX3_search_47 : decode cX3_search 47 = .ok (.aload_n 0, 1) := by decide +kernel
theorem dX3_search_48 : decode cX3_search 48 = .ok (.getfield 10, 3) := by decide +kernel
theorem dX3_search_51 : decode cX3_search 51 = .ok (.aload_n 0, 1) := by decide +kernel
theorem dX3_search_52 : decode cX3_search 52 = .ok (.getfield 10, 3) := by decide +kernel
theorem dX3_search_55 : decode cX3_search 55 = .ok (.getfield 95, 3) := by decide +kernel
theorem dX3_search_58 : decode cX3_search 58 = .ok (.iload_n 2, 1) := by decide +kernel
theorem dX3_search_59 : decode cX3_search 59 = .ok (.invokevirtual 99, 3) := by decide +kernel
theorem dX3_search_62 : decode cX3_search 62 = .ok (.ireturn, 1) := by decide +kernel
theorem dX3_type_0 : decode cX3_type 0 = .ok (.aload_n 0, 1) := by decide +kernel
theorem dX3_type_1 : decode cX3_type 1 = .ok (.getfield 29, 3) := by decide +kernel
theorem dX3_type_4 : decode cX3_type 4 = .ok (.iload_n 1, 1) := by decide +kernel
theorem dX3_type_5 : decode cX3_type 5 = .ok (.invokevirtual 103, 3) := by decide +kernel
theorem dX3_type_8 : decode cX3_type 8 = .ok (.ifCond .eq 13, 3) := by decide +kernel
theorem dX3_type_11 : decode cX3_type 11 = .ok (.aload_n 0, 1) := by decide +kernel
theorem dX3_type_12 : decode cX3_type 12 = .ok (.getfield 29, 3) := by decide +kernel
theorem dX3_type_15 : decode cX3_type 15 = .ok (.getfield 107, 3) := by decide +kernel
theorem dX3_type_18 : decode cX3_type 18 = .ok (.goto 5, 3) := by decide +kernel
theorem dX3_type_21 : decode cX3_type 21 = .ok (.bipush (-3), 2) := by decide +kernel
theorem dX3_type_23 : decode cX3_type 23 = .ok (.ireturn, 1) := by decide +kernel
theorem dX3_clearText_0 : decode cX3_clearText 0 = .ok (.aload_n 0, 1) := by decide +kernel
theorem dX3_clearText_1 : decode cX3_clearText 1 = .ok (.getfield 29, 3) := by decide +kernel
theorem dX3_clearText_4 : decode cX3_clearText 4 = .ok (.getfield 107, 3) := by decide +kernel
theorem dX3_clearText_7 : decode cX3_clearText 7 = .ok (.istore_n 1, 1) := by decide +kernel
theorem dX3_clearText_8 : decode cX3_clearText 8 = .ok (.aload_n 0, 1) := by decide +kernel
theorem dX3_clearText_9 : decode cX3_clearText 9 = .ok (.getfield 29, 3) := by decide +kernel
theorem dX3_clearText_12 : decode cX3_clearText 12 = .ok (.iconst 0, 1) := by decide +kernel
theorem dX3_clearText_13 : decode cX3_clearText 13 = .ok (.putfield 107, 3) := by decide +kernel
theorem dX3_clearText_16 : decode cX3_clearText 16 = .ok (.iload_n 1, 1) := by decide +kernel
theorem dX3_clearText_17 : decode cX3_clearText 17 = .ok (.ireturn, 1) := by decide +kernel
theorem dX3_addText_0 : decode cX3_addText 0 = .ok (.aload_n 0, 1) := by decide +kernel
theorem dX3_addText_1 : decode cX3_addText 1 = .ok (.getfield 29, 3) := by decide +kernel
theorem dX3_addText_4 : decode cX3_addText 4 = .ok (.invokevirtual 110, 3) := by decide +kernel
theorem dX3_addText_7 : decode cX3_addText 7 = .ok (.istore_n 1, 1) := by decide +kernel
theorem dX3_addText_8 : decode cX3_addText 8 = .ok (.iload_n 1, 1) := by decide +kernel
theorem dX3_addText_9 : decode cX3_addText 9 = .ok (.iconst (-1), 1) := by decide +kernel
theorem dX3_addText_10 : decode cX3_addText 10 = .ok (.if_icmp .eq 8, 3) := by decide +kernel
theorem dX3_addText_13 : decode cX3_addText 13 = .ok (.bipush (-100), 2) := by decide +kernel
theorem dX3_addText_15 : decode cX3_addText 15 = .ok (.iload_n 1, 1) := by decide +kernel
theorem dX3_addText_16 : decode cX3_addText 16 = .ok (.isub, 1) := by decide +kernel
theorem dX3_addText_17 : decode cX3_addText 17 = .ok (.ireturn, 1) := by decide +kernel
theorem dX3_addText_18 : decode cX3_addText 18 = .ok (.aload_n 0, 1) := by decide +kernel
theorem dX3_addText_19 : decode cX3_addText 19 = .ok (.getfield 29, 3) := by decide +kernel
theorem dX3_addText_22 : decode cX3_addText 22 = .ok (.getfield 113, 3) := by decide +kernel
theorem dX3_addText_25 : decode cX3_addText 25 = .ok (.istore_n 2, 1) := by decide +kernel
theorem dX3_addText_26 : decode cX3_addText 26 = .ok (.aload_n 0, 1) := by decide +kernel
theorem dX3_addText_27 : decode cX3_addText 27 = .ok (.getfield 10, 3) := by decide +kernel
theorem dX3_addText_30 : decode cX3_addText 30 = .ok (.invokevirtual 47, 3) := by decide +kernel
theorem dX3_addText_33 : decode cX3_addText 33 = .ok (.iload_n 2, 1) := by decide +kernel
theorem dX3_addText_34 : decode cX3_addText 34 = .ok (.if_icmp .ge 6, 3) := by decide +kernel
theorem dX3_addText_37 : decode cX3_addText 37 = .ok (.bipush (-3), 2) := by decide +kernel
theorem dX3_addText_39 : decode cX3_addText 39 = .ok (.ireturn, 1) := by decide +kernel
theorem dX3_addText_40 : decode cX3_addText 40 = .ok (.aload_n 0, 1) := by decide +kernel
theorem dX3_addText_41 : decode cX3_addText 41 = .ok (.getfield 22, 3) := by decide +kernel
theorem dX3_addText_44 : decode cX3_addText 44 = .ok (.aload_n 0, 1) := by decide +kernel
theorem dX3_addText_45 : decode cX3_addText 45 = .ok (.getfield 10, 3) := by decide +kernel
theorem dX3_addText_48 : decode cX3_addText 48 = .ok (.invokevirtual 51, 3) := by decide +kernel
theorem dX3_addText_51 : decode cX3_addText 51 = .ok (.iconst 0, 1) := by decide +kernel
theorem dX3_addText_52 : decode cX3_addText 52 = .ok (.istore_n 3, 1) := by decide +kernel
theorem dX3_addText_53 : decode cX3_addText 53 = .ok (.iload_n 3, 1) := by decide +kernel
theorem dX3_addText_54 : decode cX3_addText 54 = .ok (.iload_n 2, 1) := by decide +kernel
theorem dX3_addText_55 : decode cX3_addText 55 = .ok (.if_icmp .ge 58, 3) := by decide +kernel
theorem dX3_addText_58 : decode cX3_addText 58 = .ok (.iload_n 3, 1) := by decide +kernel
theorem dX3_addText_59 : decode cX3_addText 59 = .ok (.iconst 5, 1) := by decide +kernel
theorem dX3_addText_60 : decode cX3_addText 60 = .ok (.if_icmp .ge 53, 3) := by decide +kernel
theorem dX3_addText_63 : decode cX3_addText 63 = .ok (.aload_n 0, 1) := by decide +kernel
theorem dX3_addText_64 : decode cX3_addText 64 = .ok (.getfield 10, 3) := by decide +kernel
theorem dX3_addText_67 : decode cX3_addText 67 = .ok (.aload_n 0, 1) := by decide +kernel
theorem dX3_addText_68 : decode cX3_addText 68 = .ok (.getfield 29, 3) := by decide +kernel
theorem dX3_addText_71 : decode cX3_addText 71 = .ok (.getfield 116, 3) := by decide +kernel
theorem dX3_addText_74 : decode cX3_addText 74 = .ok (.iload_n 3, 1) := by decide +kernel
theorem dX3_addText_75 : decode cX3_addText 75 = .ok (.iaload, 1) := by decide +kernel
theorem dX3_addText_76 : decode cX3_addText 76 = .ok (.aload_n 0, 1) := by decide +kernel
theorem dX3_addText_77 : decode cX3_addText 77 = .ok (.getfield 29, 3) := by decide +kernel
theorem dX3_addText_80 : decode cX3_addText 80 = .ok (.getfield 119, 3) := by decide +kernel
theorem dX3_addText_83 : decode cX3_addText 83 = .ok (.iload_n 3, 1) := by decide +kernel
theorem dX3_addText_84 : decode cX3_addText 84 = .ok (.iaload, 1) := by decide +kernel
theorem dX3_addText_85 : decode cX3_addText 85 = .ok (.aload_n 0, 1) := by decide +kernel
theorem dX3_addText_86 : decode cX3_addText 86 = .ok (.getfield 29, 3) := by decide +kernel
theorem dX3_addText_89 : decode cX3_addText 89 = .ok (.getfield 122, 3) := by decide +kernel
theorem dX3_addText_92 : decode cX3_addText 92 = .ok (.iload_n 3, 1) := by decide +kernel
theorem dX3_addText_93 : decode cX3_addText 93 = .ok (.iaload, 1) := by decide +kernel
theorem dX3_addText_94 : decode cX3_addText 94 = .ok (.aload_n 0, 1) := by decide +kernel
theorem dX3_addText_95 : decode cX3_addText 95 = .ok (.getfield 29, 3) := by decide +kernel
theorem dX3_addText_98 : decode cX3_addText 98 = .ok (.getfield 125, 3) := by decide +kernel
theorem dX3_addText_101 : decode cX3_addText 101 = .ok (.iload_n 3, 1) := by decide +kernel
theorem dX3_addText_102 : decode cX3_addText 102 = .ok (.iaload, 1) := by decide +kernel
theorem dX3_addText_103 : decode cX3_addText 103 = .ok (.invokevirtual 55, 3) := by decide +kernel
theorem dX3_addText_106 : decode cX3_addText 106 = .ok (.pop, 1) := by decide +kernel
theorem dX3_addText_107 : decode cX3_addText 107 = .ok (.iinc 3 1, 3) := by decide +kernel
theorem dX3_addText_110 : decode cX3_addText 110 = .ok (.goto (-57), 3) := by decide +kernel
theorem dX3_addText_113 : decode cX3_addText 113 = .ok (.iload_n 2, 1) := by decide +kernel
theorem dX3_addText_114 : decode cX3_addText 114 = .ok (.ireturn, 1) := by decide +kernel
theorem dX3_undo_0 : decode cX3_undo 0 = .ok (.aload_n 0, 1) := by decide +kernel
theorem dX3_undo_1 : decode cX3_undo 1 = .ok (.getfield 22, 3) := by decide +kernel
theorem dX3_undo_4 : decode cX3_undo 4 = .ok (.getfield 128, 3) := by decide +kernel
theorem dX3_undo_7 : decode cX3_undo 7 = .ok (.ifCond .ne 6, 3) := by decide +kernel
theorem dX3_undo_10 : decode cX3_undo 10 = .ok (.bipush (-4), 2) := by decide +kernel
theorem dX3_undo_12 : decode cX3_undo 12 = .ok (.ireturn, 1) := by decide +kernel
theorem dX3_undo_13 : decode cX3_undo 13 = .ok (.aload_n 0, 1) := by decide +kernel
theorem dX3_undo_14 : decode cX3_undo 14 = .ok (.getfield 22, 3) := by decide +kernel
theorem dX3_undo_17 : decode cX3_undo 17 = .ok (.aload_n 0, 1) := by decide +kernel
theorem dX3_undo_18 : decode cX3_undo 18 = .ok (.getfield 10, 3) := by decide +kernel
theorem dX3_undo_21 : decode cX3_undo 21 = .ok (.invokevirtual 131, 3) := by decide +kernel
theorem dX3_undo_24 : decode cX3_undo 24 = .ok (.aload_n 0, 1) := by decide +kernel
theorem dX3_undo_25 : decode cX3_undo 25 = .ok (.getfield 22, 3) := by decide +kernel
theorem dX3_undo_28 : decode cX3_undo 28 = .ok (.getfield 128, 3) := by decide +kernel
theorem dX3_undo_31 : decode cX3_undo 31 = .ok (.ireturn, 1) := by decide +kernel
theorem dX3_keep_0 : decode cX3_keep 0 = .ok (.aload_n 0, 1) := by decide +kernel
theorem dX3_keep_1 : decode cX3_keep 1 = .ok (.getfield 10, 3) := by decide +kernel
theorem dX3_keep_4 : decode cX3_keep 4 = .ok (.aload_n 0, 1) := by decide +kernel
theorem dX3_keep_5 : decode cX3_keep 5 = .ok (.getfield 16, 3) := by decide +kernel
theorem dX3_keep_8 : decode cX3_keep 8 = .ok (.invokestatic 134, 3) := by decide +kernel
theorem dX3_keep_11 : decode cX3_keep 11 = .ok (.aload_n 0, 1) := by decide +kernel
theorem dX3_keep_12 : decode cX3_keep 12 = .ok (.iconst 1, 1) := by decide +kernel
theorem dX3_keep_13 : decode cX3_keep 13 = .ok (.putfield 33, 3) := by decide +kernel
theorem dX3_keep_16 : decode cX3_keep 16 = .ok (.aload_n 0, 1) := by decide +kernel
theorem dX3_keep_17 : decode cX3_keep 17 = .ok (.getfield 10, 3) := by decide +kernel
theorem dX3_keep_20 : decode cX3_keep 20 = .ok (.invokevirtual 85, 3) := by decide +kernel
theorem dX3_keep_23 : decode cX3_keep 23 = .ok (.ireturn, 1) := by decide +kernel
theorem dX3_restore_0 : decode cX3_restore 0 = .ok (.aload_n 0, 1) := by decide +kernel
theorem dX3_restore_1 : decode cX3_restore 1 = .ok (.getfield 33, 3) := by decide +kernel
theorem dX3_restore_4 : decode cX3_restore 4 = .ok (.ifCond .ne 6, 3) := by decide +kernel
theorem dX3_restore_7 : decode cX3_restore 7 = .ok (.bipush (-4), 2) := by decide +kernel
theorem dX3_restore_9 : decode cX3_restore 9 = .ok (.ireturn, 1) := by decide +kernel
theorem dX3_restore_10 : decode cX3_restore 10 = .ok (.aload_n 0, 1) := by decide +kernel
theorem dX3_restore_11 : decode cX3_restore 11 = .ok (.getfield 22, 3) := by decide +kernel
theorem dX3_restore_14 : decode cX3_restore 14 = .ok (.aload_n 0, 1) := by decide +kernel
theorem dX3_restore_15 : decode cX3_restore 15 = .ok (.getfield 10, 3) := by decide +kernel
theorem dX3_restore_18 : decode cX3_restore 18 = .ok (.invokevirtual 51, 3) := by decide +kernel
theorem dX3_restore_21 : decode cX3_restore 21 = .ok (.aload_n 0, 1) := by decide +kernel
theorem dX3_restore_22 : decode cX3_restore 22 = .ok (.getfield 16, 3) := by decide +kernel
theorem dX3_restore_25 : decode cX3_restore 25 = .ok (.aload_n 0, 1) := by decide +kernel
theorem dX3_restore_26 : decode cX3_restore 26 = .ok (.getfield 10, 3) := by decide +kernel
theorem dX3_restore_29 : decode cX3_restore 29 = .ok (.invokestatic 134, 3) := by decide +kernel
theorem dX3_restore_32 : decode cX3_restore 32 = .ok (.aload_n 0, 1) := by decide +kernel
theorem dX3_restore_33 : decode cX3_restore 33 = .ok (.getfield 10, 3) := by decide +kernel
theorem dX3_restore_36 : decode cX3_restore 36 = .ok (.invokevirtual 85, 3) := by decide +kernel
theorem dX3_restore_39 : decode cX3_restore 39 = .ok (.ireturn, 1) := by decide +kernel
theorem dX3_ruleIn_0 : decode cX3_ruleIn 0 = .ok (.aload_n 0, 1) := by decide +kernel
theorem dX3_ruleIn_1 : decode cX3_ruleIn 1 = .ok (.getfield 10, 3) := by decide +kernel
theorem dX3_ruleIn_4 : decode cX3_ruleIn 4 = .ok (.aload_n 0, 1) := by decide +kernel
theorem dX3_ruleIn_5 : decode cX3_ruleIn 5 = .ok (.getfield 10, 3) := by decide +kernel
theorem dX3_ruleIn_8 : decode cX3_ruleIn 8 = .ok (.getfield 138, 3) := by decide +kernel
theorem dX3_ruleIn_11 : decode cX3_ruleIn 11 = .ok (.iload_n 1, 1) := by decide +kernel
theorem dX3_ruleIn_12 : decode cX3_ruleIn 12 = .ok (.invokevirtual 99, 3) := by decide +kernel
theorem dX3_ruleIn_15 : decode cX3_ruleIn 15 = .ok (.ireturn, 1) := by decide +kernel
theorem dX3_maskIn_0 : decode cX3_maskIn 0 = .ok (.aload_n 0, 1) := by decide +kernel
theorem dX3_maskIn_1 : decode cX3_maskIn 1 = .ok (.getfield 10, 3) := by decide +kernel
theorem dX3_maskIn_4 : decode cX3_maskIn 4 = .ok (.aload_n 0, 1) := by decide +kernel
theorem dX3_maskIn_5 : decode cX3_maskIn 5 = .ok (.getfield 10, 3) := by decide +kernel
theorem dX3_maskIn_8 : decode cX3_maskIn 8 = .ok (.getfield 141, 3) := by decide +kernel
theorem dX3_maskIn_11 : decode cX3_maskIn 11 = .ok (.iload_n 1, 1) := by decide +kernel
theorem dX3_maskIn_12 : decode cX3_maskIn 12 = .ok (.invokevirtual 99, 3) := by decide +kernel
theorem dX3_maskIn_15 : decode cX3_maskIn 15 = .ok (.ireturn, 1) := by decide +kernel
theorem dX3_valueIn_0 : decode cX3_valueIn 0 = .ok (.aload_n 0, 1) := by decide +kernel
theorem dX3_valueIn_1 : decode cX3_valueIn 1 = .ok (.getfield 10, 3) := by decide +kernel
theorem dX3_valueIn_4 : decode cX3_valueIn 4 = .ok (.aload_n 0, 1) := by decide +kernel
theorem dX3_valueIn_5 : decode cX3_valueIn 5 = .ok (.getfield 10, 3) := by decide +kernel
theorem dX3_valueIn_8 : decode cX3_valueIn 8 = .ok (.getfield 144, 3) := by decide +kernel
theorem dX3_valueIn_11 : decode cX3_valueIn 11 = .ok (.iload_n 1, 1) := by decide +kernel
theorem dX3_valueIn_12 : decode cX3_valueIn 12 = .ok (.invokevirtual 99, 3) := by decide +kernel
theorem dX3_valueIn_15 : decode cX3_valueIn 15 = .ok (.ireturn, 1) := by decide +kernel
theorem dX3_sortIn_0 : decode cX3_sortIn 0 = .ok (.aload_n 0, 1) := by decide +kernel
theorem dX3_sortIn_1 : decode cX3_sortIn 1 = .ok (.getfield 10, 3) := by decide +kernel
theorem dX3_sortIn_4 : decode cX3_sortIn 4 = .ok (.aload_n 0, 1) := by decide +kernel
theorem dX3_sortIn_5 : decode cX3_sortIn 5 = .ok (.getfield 10, 3) := by decide +kernel
theorem dX3_sortIn_8 : decode cX3_sortIn 8 = .ok (.getfield 141, 3) := by decide +kernel
theorem dX3_sortIn_11 : decode cX3_sortIn 11 = .ok (.iload_n 1, 1) := by decide +kernel
theorem dX3_sortIn_12 : decode cX3_sortIn 12 = .ok (.invokevirtual 99, 3) := by decide +kernel
theorem dX3_sortIn_15 : decode cX3_sortIn 15 = .ok (.istore_n 2, 1) := by decide +kernel
theorem dX3_sortIn_16 : decode cX3_sortIn 16 = .ok (.iload_n 2, 1) := by decide +kernel
theorem dX3_sortIn_17 : decode cX3_sortIn 17 = .ok (.ifCond .ge 7, 3) := by decide +kernel
theorem dX3_sortIn_20 : decode cX3_sortIn 20 = .ok (.iload_n 2, 1) := by decide +kernel
theorem dX3_sortIn_21 : decode cX3_sortIn 21 = .ok (.goto 7, 3) := by decide +kernel
theorem dX3_sortIn_24 : decode cX3_sortIn 24 = .ok (.iload_n 2, 1) := by decide +kernel
theorem dX3_sortIn_25 : decode cX3_sortIn 25 = .ok (.invokestatic 147, 3) := by decide +kernel
theorem dX3_sortIn_28 : decode cX3_sortIn 28 = .ok (.ireturn, 1) := by decide +kernel
theorem dX3_slotOf_0 : decode cX3_slotOf 0 = .ok (.aload_n 0, 1) := by decide +kernel
theorem dX3_slotOf_1 : decode cX3_slotOf 1 = .ok (.getfield 10, 3) := by decide +kernel
theorem dX3_slotOf_4 : decode cX3_slotOf 4 = .ok (.iload_n 1, 1) := by decide +kernel
theorem dX3_slotOf_5 : decode cX3_slotOf 5 = .ok (.iload_n 2, 1) := by decide +kernel
theorem dX3_slotOf_6 : decode cX3_slotOf 6 = .ok (.invokevirtual 150, 3) := by decide +kernel
theorem dX3_slotOf_9 : decode cX3_slotOf 9 = .ok (.istore_n 3, 1) := by decide +kernel
theorem dX3_slotOf_10 : decode cX3_slotOf 10 = .ok (.iload_n 3, 1) := by decide +kernel
theorem dX3_slotOf_11 : decode cX3_slotOf 11 = .ok (.iconst (-1), 1) := by decide +kernel
theorem dX3_slotOf_12 : decode cX3_slotOf 12 = .ok (.if_icmp .ne 7, 3) := by decide +kernel
theorem dX3_slotOf_15 : decode cX3_slotOf 15 = .ok (.iconst (-1), 1) := by decide +kernel
theorem dX3_slotOf_16 : decode cX3_slotOf 16 = .ok (.goto 4, 3) := by decide +kernel
theorem dX3_slotOf_19 : decode cX3_slotOf 19 = .ok (.iload_n 3, 1) := by decide +kernel
theorem dX3_slotOf_20 : decode cX3_slotOf 20 = .ok (.ireturn, 1) := by decide +kernel
theorem dX3_parts_0 : decode cX3_parts 0 = .ok (.aload_n 0, 1) := by decide +kernel
theorem dX3_parts_1 : decode cX3_parts 1 = .ok (.getfield 10, 3) := by decide +kernel
theorem dX3_parts_4 : decode cX3_parts 4 = .ok (.iload_n 1, 1) := by decide +kernel
theorem dX3_parts_5 : decode cX3_parts 5 = .ok (.invokevirtual 70, 3) := by decide +kernel
theorem dX3_parts_8 : decode cX3_parts 8 = .ok (.istore_n 2, 1) := by decide +kernel
theorem dX3_parts_9 : decode cX3_parts 9 = .ok (.iload_n 2, 1) := by decide +kernel
theorem dX3_parts_10 : decode cX3_parts 10 = .ok (.ifCond .ne 7, 3) := by decide +kernel
theorem dX3_parts_13 : decode cX3_parts 13 = .ok (.iconst (-1), 1) := by decide +kernel
theorem dX3_parts_14 : decode cX3_parts 14 = .ok (.goto 4, 3) := by decide +kernel
theorem dX3_parts_17 : decode cX3_parts 17 = .ok (.iload_n 2, 1) := by decide +kernel
theorem dX3_parts_18 : decode cX3_parts 18 = .ok (.ireturn, 1) := by decide +kernel
theorem dX3_rank_0 : decode cX3_rank 0 = .ok (.aload_n 0, 1) := by decide +kernel
theorem dX3_rank_1 : decode cX3_rank 1 = .ok (.getfield 10, 3) := by decide +kernel
theorem dX3_rank_4 : decode cX3_rank 4 = .ok (.aload_n 0, 1) := by decide +kernel
theorem dX3_rank_5 : decode cX3_rank 5 = .ok (.getfield 10, 3) := by decide +kernel
theorem dX3_rank_8 : decode cX3_rank 8 = .ok (.getfield 153, 3) := by decide +kernel
theorem dX3_rank_11 : decode cX3_rank 11 = .ok (.aload_n 0, 1) := by decide +kernel
theorem dX3_rank_12 : decode cX3_rank 12 = .ok (.getfield 10, 3) := by decide +kernel
theorem dX3_rank_15 : decode cX3_rank 15 = .ok (.iload_n 1, 1) := by decide +kernel
theorem dX3_rank_16 : decode cX3_rank 16 = .ok (.iconst 0, 1) := by decide +kernel
theorem dX3_rank_17 : decode cX3_rank 17 = .ok (.invokevirtual 150, 3) := by decide +kernel
theorem dX3_rank_20 : decode cX3_rank 20 = .ok (.invokevirtual 99, 3) := by decide +kernel
theorem dX3_rank_23 : decode cX3_rank 23 = .ok (.ireturn, 1) := by decide +kernel
theorem dX3_action_0 : decode cX3_action 0 = .ok (.aload_n 0, 1) := by decide +kernel
theorem dX3_action_1 : decode cX3_action 1 = .ok (.getfield 10, 3) := by decide +kernel
theorem dX3_action_4 : decode cX3_action 4 = .ok (.aload_n 0, 1) := by decide +kernel
theorem dX3_action_5 : decode cX3_action 5 = .ok (.getfield 10, 3) := by decide +kernel
theorem dX3_action_8 : decode cX3_action 8 = .ok (.getfield 95, 3) := by decide +kernel
theorem dX3_action_11 : decode cX3_action 11 = .ok (.aload_n 0, 1) := by decide +kernel
theorem dX3_action_12 : decode cX3_action 12 = .ok (.getfield 10, 3) := by decide +kernel
theorem dX3_action_15 : decode cX3_action 15 = .ok (.iload_n 1, 1) := by decide +kernel
theorem dX3_action_16 : decode cX3_action 16 = .ok (.iconst 0, 1) := by decide +kernel
theorem dX3_action_17 : decode cX3_action 17 = .ok (.invokevirtual 150, 3) := by decide +kernel
theorem dX3_action_20 : decode cX3_action 20 = .ok (.invokevirtual 99, 3) := by decide +kernel
theorem dX3_action_23 : decode cX3_action 23 = .ok (.ireturn, 1) := by decide +kernel
theorem dX3_hits_0 : decode cX3_hits 0 = .ok (.aload_n 0, 1) := by decide +kernel
theorem dX3_hits_1 : decode cX3_hits 1 = .ok (.getfield 10, 3) := by decide +kernel
theorem dX3_hits_4 : decode cX3_hits 4 = .ok (.aload_n 0, 1) := by decide +kernel
theorem dX3_hits_5 : decode cX3_hits 5 = .ok (.getfield 10, 3) := by decide +kernel
theorem dX3_hits_8 : decode cX3_hits 8 = .ok (.getfield 156, 3) := by decide +kernel
theorem dX3_hits_11 : decode cX3_hits 11 = .ok (.aload_n 0, 1) := by decide +kernel
theorem dX3_hits_12 : decode cX3_hits 12 = .ok (.getfield 10, 3) := by decide +kernel
theorem dX3_hits_15 : decode cX3_hits 15 = .ok (.iload_n 1, 1) := by decide +kernel
theorem dX3_hits_16 : decode cX3_hits 16 = .ok (.iconst 0, 1) := by decide +kernel
theorem dX3_hits_17 : decode cX3_hits 17 = .ok (.invokevirtual 150, 3) := by decide +kernel
theorem dX3_hits_20 : decode cX3_hits 20 = .ok (.invokevirtual 99, 3) := by decide +kernel
theorem dX3_hits_23 : decode cX3_hits 23 = .ok (.ireturn, 1) := by decide +kernel
theorem dX3_find_0 : decode cX3_find 0 = .ok (.iload_n 1, 1) := by decide +kernel
theorem dX3_find_1 : decode cX3_find 1 = .ok (.invokestatic 37, 3) := by decide +kernel
theorem dX3_find_4 : decode cX3_find 4 = .ok (.ifCond .ne 6, 3) := by decide +kernel
theorem dX3_find_7 : decode cX3_find 7 = .ok (.bipush (-2), 2) := by decide +kernel
theorem dX3_find_9 : decode cX3_find 9 = .ok (.ireturn, 1) := by decide +kernel
theorem dX3_find_10 : decode cX3_find 10 = .ok (.aload_n 0, 1) := by decide +kernel
theorem dX3_find_11 : decode cX3_find 11 = .ok (.getfield 10, 3) := by decide +kernel
theorem dX3_find_14 : decode cX3_find 14 = .ok (.iload_n 1, 1) := by decide +kernel
theorem dX3_find_15 : decode cX3_find 15 = .ok (.invokevirtual 88, 3) := by decide +kernel
theorem dX3_find_18 : decode cX3_find 18 = .ok (.istore_n 2, 1) := by decide +kernel
theorem dX3_find_19 : decode cX3_find 19 = .ok (.iload_n 2, 1) := by decide +kernel
theorem dX3_find_20 : decode cX3_find 20 = .ok (.iconst (-1), 1) := by decide +kernel
theorem dX3_find_21 : decode cX3_find 21 = .ok (.if_icmp .ne 8, 3) := by decide +kernel
theorem dX3_find_24 : decode cX3_find 24 = .ok (.bipush (-4), 2) := by decide +kernel
theorem dX3_find_26 : decode cX3_find 26 = .ok (.goto 18, 3) := by decide +kernel
theorem dX3_find_29 : decode cX3_find 29 = .ok (.aload_n 0, 1) := by decide +kernel
theorem dX3_find_30 : decode cX3_find 30 = .ok (.getfield 10, 3) := by decide +kernel
theorem dX3_find_33 : decode cX3_find 33 = .ok (.aload_n 0, 1) := by decide +kernel
theorem dX3_find_34 : decode cX3_find 34 = .ok (.getfield 10, 3) := by decide +kernel
theorem dX3_find_37 : decode cX3_find 37 = .ok (.getfield 138, 3) := by decide +kernel
theorem dX3_find_40 : decode cX3_find 40 = .ok (.iload_n 2, 1) := by decide +kernel
theorem dX3_find_41 : decode cX3_find 41 = .ok (.invokevirtual 99, 3) := by decide +kernel
theorem dX3_find_44 : decode cX3_find 44 = .ok (.ireturn, 1) := by decide +kernel
theorem dX3_power_0 : decode cX3_power 0 = .ok (.iload_n 1, 1) := by decide +kernel
theorem dX3_power_1 : decode cX3_power 1 = .ok (.invokestatic 37, 3) := by decide +kernel
theorem dX3_power_4 : decode cX3_power 4 = .ok (.ifCond .eq 14, 3) := by decide +kernel
theorem dX3_power_7 : decode cX3_power 7 = .ok (.aload_n 0, 1) := by decide +kernel
theorem dX3_power_8 : decode cX3_power 8 = .ok (.getfield 10, 3) := by decide +kernel
theorem dX3_power_11 : decode cX3_power 11 = .ok (.iload_n 1, 1) := by decide +kernel
theorem dX3_power_12 : decode cX3_power 12 = .ok (.invokevirtual 159, 3) := by decide +kernel
theorem dX3_power_15 : decode cX3_power 15 = .ok (.goto 5, 3) := by decide +kernel
theorem dX3_power_18 : decode cX3_power 18 = .ok (.bipush (-2), 2) := by decide +kernel
theorem dX3_power_20 : decode cX3_power 20 = .ok (.ireturn, 1) := by decide +kernel
theorem dX3_filterMask_0 : decode cX3_filterMask 0 = .ok (.iload_n 1, 1) := by decide +kernel
theorem dX3_filterMask_1 : decode cX3_filterMask 1 = .ok (.invokestatic 162, 3) := by decide +kernel
theorem dX3_filterMask_4 : decode cX3_filterMask 4 = .ok (.ifCond .eq 14, 3) := by decide +kernel
theorem dX3_filterMask_7 : decode cX3_filterMask 7 = .ok (.aload_n 0, 1) := by decide +kernel
theorem dX3_filterMask_8 : decode cX3_filterMask 8 = .ok (.getfield 10, 3) := by decide +kernel
theorem dX3_filterMask_11 : decode cX3_filterMask 11 = .ok (.iload_n 1, 1) := by decide +kernel
theorem dX3_filterMask_12 : decode cX3_filterMask 12 = .ok (.invokevirtual 165, 3) := by decide +kernel
theorem dX3_filterMask_15 : decode cX3_filterMask 15 = .ok (.goto 4, 3) := by decide +kernel
theorem dX3_filterMask_18 : decode cX3_filterMask 18 = .ok (.iconst (-1), 1) := by decide +kernel
theorem dX3_filterMask_19 : decode cX3_filterMask 19 = .ok (.ireturn, 1) := by decide +kernel
theorem dX3_filterValue_0 : decode cX3_filterValue 0 = .ok (.iload_n 1, 1) := by decide +kernel
theorem dX3_filterValue_1 : decode cX3_filterValue 1 = .ok (.invokestatic 162, 3) := by decide +kernel
theorem dX3_filterValue_4 : decode cX3_filterValue 4 = .ok (.ifCond .eq 14, 3) := by decide +kernel
theorem dX3_filterValue_7 : decode cX3_filterValue 7 = .ok (.aload_n 0, 1) := by decide +kernel
theorem dX3_filterValue_8 : decode cX3_filterValue 8 = .ok (.getfield 10, 3) := by decide +kernel
theorem dX3_filterValue_11 : decode cX3_filterValue 11 = .ok (.iload_n 1, 1) := by decide +kernel
theorem dX3_filterValue_12 : decode cX3_filterValue 12 = .ok (.invokevirtual 168, 3) := by decide +kernel
theorem dX3_filterValue_15 : decode cX3_filterValue 15 = .ok (.goto 4, 3) := by decide +kernel
theorem dX3_filterValue_18 : decode cX3_filterValue 18 = .ok (.iconst (-1), 1) := by decide +kernel
theorem dX3_filterValue_19 : decode cX3_filterValue 19 = .ok (.ireturn, 1) := by decide +kernel
theorem dX3_hiddenBy_0 : decode cX3_hiddenBy 0 = .ok (.iload_n 1, 1) := by decide +kernel
theorem dX3_hiddenBy_1 : decode cX3_hiddenBy 1 = .ok (.invokestatic 171, 3) := by decide +kernel
theorem dX3_hiddenBy_4 : decode cX3_hiddenBy 4 = .ok (.ifCond .ne 5, 3) := by decide +kernel
theorem dX3_hiddenBy_7 : decode cX3_hiddenBy 7 = .ok (.iconst (-1), 1) := by decide +kernel
theorem dX3_hiddenBy_8 : decode cX3_hiddenBy 8 = .ok (.ireturn, 1) := by decide +kernel
theorem dX3_hiddenBy_9 : decode cX3_hiddenBy 9 = .ok (.aload_n 0, 1) := by decide +kernel
theorem dX3_hiddenBy_10 : decode cX3_hiddenBy 10 = .ok (.getfield 10, 3) := by decide +kernel
theorem dX3_hiddenBy_13 : decode cX3_hiddenBy 13 = .ok (.iload_n 1, 1) := by decide +kernel
theorem dX3_hiddenBy_14 : decode cX3_hiddenBy 14 = .ok (.invokevirtual 174, 3) := by decide +kernel
theorem dX3_hiddenBy_17 : decode cX3_hiddenBy 17 = .ok (.istore_n 2, 1) := by decide +kernel
theorem dX3_hiddenBy_18 : decode cX3_hiddenBy 18 = .ok (.iload_n 2, 1) := by decide +kernel
theorem dX3_hiddenBy_19 : decode cX3_hiddenBy 19 = .ok (.iconst (-1), 1) := by decide +kernel
theorem dX3_hiddenBy_20 : decode cX3_hiddenBy 20 = .ok (.if_icmp .ne 8, 3) := by decide +kernel
theorem dX3_hiddenBy_23 : decode cX3_hiddenBy 23 = .ok (.bipush (-4), 2) := by decide +kernel
theorem dX3_hiddenBy_25 : decode cX3_hiddenBy 25 = .ok (.goto 4, 3) := by decide +kernel
theorem dX3_hiddenBy_28 : decode cX3_hiddenBy 28 = .ok (.iload_n 2, 1) := by decide +kernel
theorem dX3_hiddenBy_29 : decode cX3_hiddenBy 29 = .ok (.ireturn, 1) := by decide +kernel
theorem dX3_keysFor_0 : decode cX3_keysFor 0 = .ok (.iload_n 1, 1) := by decide +kernel
theorem dX3_keysFor_1 : decode cX3_keysFor 1 = .ok (.invokestatic 171, 3) := by decide +kernel
theorem dX3_keysFor_4 : decode cX3_keysFor 4 = .ok (.ifCond .eq 14, 3) := by decide +kernel
theorem dX3_keysFor_7 : decode cX3_keysFor 7 = .ok (.aload_n 0, 1) := by decide +kernel
theorem dX3_keysFor_8 : decode cX3_keysFor 8 = .ok (.getfield 10, 3) := by decide +kernel
theorem dX3_keysFor_11 : decode cX3_keysFor 11 = .ok (.iload_n 1, 1) := by decide +kernel
theorem dX3_keysFor_12 : decode cX3_keysFor 12 = .ok (.invokevirtual 177, 3) := by decide +kernel
theorem dX3_keysFor_15 : decode cX3_keysFor 15 = .ok (.goto 4, 3) := by decide +kernel
theorem dX3_keysFor_18 : decode cX3_keysFor 18 = .ok (.iconst (-1), 1) := by decide +kernel
theorem dX3_keysFor_19 : decode cX3_keysFor 19 = .ok (.ireturn, 1) := by decide +kernel
theorem dX3_wouldMove_0 : decode cX3_wouldMove 0 = .ok (.iload_n 1, 1) := by decide +kernel
theorem dX3_wouldMove_1 : decode cX3_wouldMove 1 = .ok (.invokestatic 41, 3) := by decide +kernel
theorem dX3_wouldMove_4 : decode cX3_wouldMove 4 = .ok (.ifCond .ne 6, 3) := by decide +kernel
theorem dX3_wouldMove_7 : decode cX3_wouldMove 7 = .ok (.bipush (-2), 2) := by decide +kernel
theorem dX3_wouldMove_9 : decode cX3_wouldMove 9 = .ok (.ireturn, 1) := by decide +kernel
theorem dX3_wouldMove_10 : decode cX3_wouldMove 10 = .ok (.aload_n 0, 1) := by decide +kernel
theorem dX3_wouldMove_11 : decode cX3_wouldMove 11 = .ok (.getfield 10, 3) := by decide +kernel
theorem dX3_wouldMove_14 : decode cX3_wouldMove 14 = .ok (.invokevirtual 47, 3) := by decide +kernel
theorem dX3_wouldMove_17 : decode cX3_wouldMove 17 = .ok (.ifCond .ne 8, 3) := by decide +kernel
theorem dX3_wouldMove_20 : decode cX3_wouldMove 20 = .ok (.bipush (-3), 2) := by decide +kernel
theorem dX3_wouldMove_22 : decode cX3_wouldMove 22 = .ok (.goto 11, 3) := by decide +kernel
theorem dX3_wouldMove_25 : decode cX3_wouldMove 25 = .ok (.aload_n 0, 1) := by decide +kernel
theorem dX3_wouldMove_26 : decode cX3_wouldMove 26 = .ok (.getfield 10, 3) := by decide +kernel
theorem dX3_wouldMove_29 : decode cX3_wouldMove 29 = .ok (.iload_n 1, 1) := by decide +kernel
theorem dX3_wouldMove_30 : decode cX3_wouldMove 30 = .ok (.invokevirtual 180, 3) := by decide +kernel
theorem dX3_wouldMove_33 : decode cX3_wouldMove 33 = .ok (.ireturn, 1) := by decide +kernel
theorem dX3_entriesFor_0 : decode cX3_entriesFor 0 = .ok (.iload_n 1, 1) := by decide +kernel
theorem dX3_entriesFor_1 : decode cX3_entriesFor 1 = .ok (.iload_n 2, 1) := by decide +kernel
theorem dX3_entriesFor_2 : decode cX3_entriesFor 2 = .ok (.invokestatic 59, 3) := by decide +kernel
theorem dX3_entriesFor_5 : decode cX3_entriesFor 5 = .ok (.ifCond .eq 11, 3) := by decide +kernel
theorem dX3_entriesFor_8 : decode cX3_entriesFor 8 = .ok (.iload_n 1, 1) := by decide +kernel
theorem dX3_entriesFor_9 : decode cX3_entriesFor 9 = .ok (.iload_n 2, 1) := by decide +kernel
theorem dX3_entriesFor_10 : decode cX3_entriesFor 10 = .ok (.invokestatic 63, 3) := by decide +kernel
theorem dX3_entriesFor_13 : decode cX3_entriesFor 13 = .ok (.goto 5, 3) := by decide +kernel
theorem dX3_entriesFor_16 : decode cX3_entriesFor 16 = .ok (.bipush (-2), 2) := by decide +kernel
theorem dX3_entriesFor_18 : decode cX3_entriesFor 18 = .ok (.ireturn, 1) := by decide +kernel
theorem dX3_total_0 : decode cX3_total 0 = .ok (.iload_n 1, 1) := by decide +kernel
theorem dX3_total_1 : decode cX3_total 1 = .ok (.tableswitch 148 0 10 #[59, 67, 75, 83, 91, 99, 107, 115, 123, 132, 140], 59) := by decide +kernel
theorem dX3_total_60 : decode cX3_total 60 = .ok (.aload_n 0, 1) := by decide +kernel
theorem dX3_total_61 : decode cX3_total 61 = .ok (.getfield 10, 3) := by decide +kernel
theorem dX3_total_64 : decode cX3_total 64 = .ok (.invokevirtual 85, 3) := by decide +kernel
theorem dX3_total_67 : decode cX3_total 67 = .ok (.ireturn, 1) := by decide +kernel
theorem dX3_total_68 : decode cX3_total 68 = .ok (.aload_n 0, 1) := by decide +kernel
theorem dX3_total_69 : decode cX3_total 69 = .ok (.getfield 10, 3) := by decide +kernel
theorem dX3_total_72 : decode cX3_total 72 = .ok (.invokevirtual 183, 3) := by decide +kernel
theorem dX3_total_75 : decode cX3_total 75 = .ok (.ireturn, 1) := by decide +kernel
theorem dX3_total_76 : decode cX3_total 76 = .ok (.aload_n 0, 1) := by decide +kernel
theorem dX3_total_77 : decode cX3_total 77 = .ok (.getfield 10, 3) := by decide +kernel
theorem dX3_total_80 : decode cX3_total 80 = .ok (.getfield 186, 3) := by decide +kernel
theorem dX3_total_83 : decode cX3_total 83 = .ok (.ireturn, 1) := by decide +kernel
theorem dX3_total_84 : decode cX3_total 84 = .ok (.aload_n 0, 1) := by decide +kernel
theorem dX3_total_85 : decode cX3_total 85 = .ok (.getfield 10, 3) := by decide +kernel
theorem dX3_total_88 : decode cX3_total 88 = .ok (.getfield 78, 3) := by decide +kernel
theorem dX3_total_91 : decode cX3_total 91 = .ok (.ireturn, 1) := by decide +kernel
theorem dX3_total_92 : decode cX3_total 92 = .ok (.aload_n 0, 1) := by decide +kernel
theorem dX3_total_93 : decode cX3_total 93 = .ok (.getfield 10, 3) := by decide +kernel
theorem dX3_total_96 : decode cX3_total 96 = .ok (.getfield 189, 3) := by decide +kernel
theorem dX3_total_99 : decode cX3_total 99 = .ok (.ireturn, 1) := by decide +kernel
theorem dX3_total_100 : decode cX3_total 100 = .ok (.aload_n 0, 1) := by decide +kernel
theorem dX3_total_101 : decode cX3_total 101 = .ok (.getfield 10, 3) := by decide +kernel
theorem dX3_total_104 : decode cX3_total 104 = .ok (.getfield 192, 3) := by decide +kernel
theorem dX3_total_107 : decode cX3_total 107 = .ok (.ireturn, 1) := by decide +kernel
theorem dX3_total_108 : decode cX3_total 108 = .ok (.aload_n 0, 1) := by decide +kernel
theorem dX3_total_109 : decode cX3_total 109 = .ok (.getfield 10, 3) := by decide +kernel
theorem dX3_total_112 : decode cX3_total 112 = .ok (.getfield 195, 3) := by decide +kernel
theorem dX3_total_115 : decode cX3_total 115 = .ok (.ireturn, 1) := by decide +kernel
theorem dX3_total_116 : decode cX3_total 116 = .ok (.aload_n 0, 1) := by decide +kernel
theorem dX3_total_117 : decode cX3_total 117 = .ok (.getfield 10, 3) := by decide +kernel
theorem dX3_total_120 : decode cX3_total 120 = .ok (.invokevirtual 198, 3) := by decide +kernel
theorem dX3_total_123 : decode cX3_total 123 = .ok (.ireturn, 1) := by decide +kernel
theorem dX3_total_124 : decode cX3_total 124 = .ok (.aload_n 0, 1) := by decide +kernel
theorem dX3_total_125 : decode cX3_total 125 = .ok (.getfield 10, 3) := by decide +kernel
theorem dX3_total_128 : decode cX3_total 128 = .ok (.iconst (-1), 1) := by decide +kernel
theorem dX3_total_129 : decode cX3_total 129 = .ok (.invokevirtual 177, 3) := by decide +kernel
theorem dX3_total_132 : decode cX3_total 132 = .ok (.ireturn, 1) := by decide +kernel
theorem dX3_total_133 : decode cX3_total 133 = .ok (.aload_n 0, 1) := by decide +kernel
theorem dX3_total_134 : decode cX3_total 134 = .ok (.getfield 22, 3) := by decide +kernel
theorem dX3_total_137 : decode cX3_total 137 = .ok (.getfield 128, 3) := by decide +kernel
theorem dX3_total_140 : decode cX3_total 140 = .ok (.ireturn, 1) := by decide +kernel
theorem dX3_total_141 : decode cX3_total 141 = .ok (.aload_n 0, 1) := by decide +kernel
theorem dX3_total_142 : decode cX3_total 142 = .ok (.getfield 29, 3) := by decide +kernel
theorem dX3_total_145 : decode cX3_total 145 = .ok (.getfield 107, 3) := by decide +kernel
theorem dX3_total_148 : decode cX3_total 148 = .ok (.ireturn, 1) := by decide +kernel
theorem dX3_total_149 : decode cX3_total 149 = .ok (.bipush (-2), 2) := by decide +kernel
theorem dX3_total_151 : decode cX3_total 151 = .ok (.ireturn, 1) := by decide +kernel
theorem dX3_rearrange_0 : decode cX3_rearrange 0 = .ok (.aload_n 0, 1) := by decide +kernel
theorem dX3_rearrange_1 : decode cX3_rearrange 1 = .ok (.getfield 10, 3) := by decide +kernel
theorem dX3_rearrange_4 : decode cX3_rearrange 4 = .ok (.iload_n 1, 1) := by decide +kernel
theorem dX3_rearrange_5 : decode cX3_rearrange 5 = .ok (.invokevirtual 201, 3) := by decide +kernel
theorem dX3_rearrange_8 : decode cX3_rearrange 8 = .ok (.istore_n 2, 1) := by decide +kernel
theorem dX3_rearrange_9 : decode cX3_rearrange 9 = .ok (.iload_n 2, 1) := by decide +kernel
theorem dX3_rearrange_10 : decode cX3_rearrange 10 = .ok (.ifCond .ne 6, 3) := by decide +kernel
theorem dX3_rearrange_13 : decode cX3_rearrange 13 = .ok (.bipush (-4), 2) := by decide +kernel
theorem dX3_rearrange_15 : decode cX3_rearrange 15 = .ok (.ireturn, 1) := by decide +kernel
theorem dX3_rearrange_16 : decode cX3_rearrange 16 = .ok (.aload_n 0, 1) := by decide +kernel
theorem dX3_rearrange_17 : decode cX3_rearrange 17 = .ok (.getfield 22, 3) := by decide +kernel
theorem dX3_rearrange_20 : decode cX3_rearrange 20 = .ok (.aload_n 0, 1) := by decide +kernel
theorem dX3_rearrange_21 : decode cX3_rearrange 21 = .ok (.getfield 10, 3) := by decide +kernel
theorem dX3_rearrange_24 : decode cX3_rearrange 24 = .ok (.invokevirtual 51, 3) := by decide +kernel
theorem dX3_rearrange_27 : decode cX3_rearrange 27 = .ok (.aload_n 0, 1) := by decide +kernel
theorem dX3_rearrange_28 : decode cX3_rearrange 28 = .ok (.getfield 10, 3) := by decide +kernel
theorem dX3_rearrange_31 : decode cX3_rearrange 31 = .ok (.iload_n 1, 1) := by decide +kernel
theorem dX3_rearrange_32 : decode cX3_rearrange 32 = .ok (.invokevirtual 204, 3) := by decide +kernel
theorem dX3_rearrange_35 : decode cX3_rearrange 35 = .ok (.aload_n 0, 1) := by decide +kernel
theorem dX3_rearrange_36 : decode cX3_rearrange 36 = .ok (.getfield 10, 3) := by decide +kernel
theorem dX3_rearrange_39 : decode cX3_rearrange 39 = .ok (.dup, 1) := by decide +kernel
theorem dX3_rearrange_40 : decode cX3_rearrange 40 = .ok (.getfield 189, 3) := by decide +kernel
theorem dX3_rearrange_43 : decode cX3_rearrange 43 = .ok (.iload_n 2, 1) := by decide +kernel
theorem dX3_rearrange_44 : decode cX3_rearrange 44 = .ok (.iadd, 1) := by decide +kernel
theorem dX3_rearrange_45 : decode cX3_rearrange 45 = .ok (.putfield 189, 3) := by decide +kernel
theorem dX3_rearrange_48 : decode cX3_rearrange 48 = .ok (.iload_n 2, 1) := by decide +kernel
theorem dX3_rearrange_49 : decode cX3_rearrange 49 = .ok (.ireturn, 1) := by decide +kernel
theorem dX3_isSlot_0 : decode cX3_isSlot 0 = .ok (.iload_n 0, 1) := by decide +kernel
theorem dX3_isSlot_1 : decode cX3_isSlot 1 = .ok (.ifCond .lt 13, 3) := by decide +kernel
theorem dX3_isSlot_4 : decode cX3_isSlot 4 = .ok (.iload_n 0, 1) := by decide +kernel
theorem dX3_isSlot_5 : decode cX3_isSlot 5 = .ok (.bipush 32, 2) := by decide +kernel
theorem dX3_isSlot_7 : decode cX3_isSlot 7 = .ok (.if_icmp .ge 7, 3) := by decide +kernel
theorem dX3_isSlot_10 : decode cX3_isSlot 10 = .ok (.iconst 1, 1) := by decide +kernel
theorem dX3_isSlot_11 : decode cX3_isSlot 11 = .ok (.goto 4, 3) := by decide +kernel
theorem dX3_isSlot_14 : decode cX3_isSlot 14 = .ok (.iconst 0, 1) := by decide +kernel
theorem dX3_isSlot_15 : decode cX3_isSlot 15 = .ok (.ireturn, 1) := by decide +kernel
theorem dX3_isBank_0 : decode cX3_isBank 0 = .ok (.iload_n 0, 1) := by decide +kernel
theorem dX3_isBank_1 : decode cX3_isBank 1 = .ok (.ifCond .lt 12, 3) := by decide +kernel
theorem dX3_isBank_4 : decode cX3_isBank 4 = .ok (.iload_n 0, 1) := by decide +kernel
theorem dX3_isBank_5 : decode cX3_isBank 5 = .ok (.iconst 4, 1) := by decide +kernel
theorem dX3_isBank_6 : decode cX3_isBank 6 = .ok (.if_icmp .ge 7, 3) := by decide +kernel
theorem dX3_isBank_9 : decode cX3_isBank 9 = .ok (.iconst 1, 1) := by decide +kernel
theorem dX3_isBank_10 : decode cX3_isBank 10 = .ok (.goto 4, 3) := by decide +kernel
theorem dX3_isBank_13 : decode cX3_isBank 13 = .ok (.iconst 0, 1) := by decide +kernel
theorem dX3_isBank_14 : decode cX3_isBank 14 = .ok (.ireturn, 1) := by decide +kernel
theorem dX3_isKey_0 : decode cX3_isKey 0 = .ok (.iload_n 0, 1) := by decide +kernel
theorem dX3_isKey_1 : decode cX3_isKey 1 = .ok (.ifCond .lt 14, 3) := by decide +kernel
theorem dX3_isKey_4 : decode cX3_isKey 4 = .ok (.iload_n 0, 1) := by decide +kernel
theorem dX3_isKey_5 : decode cX3_isKey 5 = .ok (.sipush 256, 3) := by decide +kernel
theorem dX3_isKey_8 : decode cX3_isKey 8 = .ok (.if_icmp .ge 7, 3) := by decide +kernel
theorem dX3_isKey_11 : decode cX3_isKey 11 = .ok (.iconst 1, 1) := by decide +kernel
theorem dX3_isKey_12 : decode cX3_isKey 12 = .ok (.goto 4, 3) := by decide +kernel
theorem dX3_isKey_15 : decode cX3_isKey 15 = .ok (.iconst 0, 1) := by decide +kernel
theorem dX3_isKey_16 : decode cX3_isKey 16 = .ok (.ireturn, 1) := by decide +kernel
theorem dX3_isRange_0 : decode cX3_isRange 0 = .ok (.iload_n 0, 1) := by decide +kernel
theorem dX3_isRange_1 : decode cX3_isRange 1 = .ok (.invokestatic 37, 3) := by decide +kernel
theorem dX3_isRange_4 : decode cX3_isRange 4 = .ok (.ifCond .eq 19, 3) := by decide +kernel
theorem dX3_isRange_7 : decode cX3_isRange 7 = .ok (.iload_n 1, 1) := by decide +kernel
theorem dX3_isRange_8 : decode cX3_isRange 8 = .ok (.invokestatic 37, 3) := by decide +kernel
theorem dX3_isRange_11 : decode cX3_isRange 11 = .ok (.ifCond .eq 12, 3) := by decide +kernel
theorem dX3_isRange_14 : decode cX3_isRange 14 = .ok (.iload_n 0, 1) := by decide +kernel
theorem dX3_isRange_15 : decode cX3_isRange 15 = .ok (.iload_n 1, 1) := by decide +kernel
theorem dX3_isRange_16 : decode cX3_isRange 16 = .ok (.if_icmp .gt 7, 3) := by decide +kernel
theorem dX3_isRange_19 : decode cX3_isRange 19 = .ok (.iconst 1, 1) := by decide +kernel
theorem dX3_isRange_20 : decode cX3_isRange 20 = .ok (.goto 4, 3) := by decide +kernel
theorem dX3_isRange_23 : decode cX3_isRange 23 = .ok (.iconst 0, 1) := by decide +kernel
theorem dX3_isRange_24 : decode cX3_isRange 24 = .ok (.ireturn, 1) := by decide +kernel
theorem dX3_isRank_0 : decode cX3_isRank 0 = .ok (.iload_n 0, 1) := by decide +kernel
theorem dX3_isRank_1 : decode cX3_isRank 1 = .ok (.ifCond .lt 13, 3) := by decide +kernel
theorem dX3_isRank_4 : decode cX3_isRank 4 = .ok (.iload_n 0, 1) := by decide +kernel
theorem dX3_isRank_5 : decode cX3_isRank 5 = .ok (.bipush 100, 2) := by decide +kernel
theorem dX3_isRank_7 : decode cX3_isRank 7 = .ok (.if_icmp .ge 7, 3) := by decide +kernel
theorem dX3_isRank_10 : decode cX3_isRank 10 = .ok (.iconst 1, 1) := by decide +kernel
theorem dX3_isRank_11 : decode cX3_isRank 11 = .ok (.goto 4, 3) := by decide +kernel
theorem dX3_isRank_14 : decode cX3_isRank 14 = .ok (.iconst 0, 1) := by decide +kernel
theorem dX3_isRank_15 : decode cX3_isRank 15 = .ok (.ireturn, 1) := by decide +kernel
theorem dX3_isAction_0 : decode cX3_isAction 0 = .ok (.iload_n 0, 1) := by decide +kernel
theorem dX3_isAction_1 : decode cX3_isAction 1 = .ok (.ifCond .lt 13, 3) := by decide +kernel
theorem dX3_isAction_4 : decode cX3_isAction 4 = .ok (.iload_n 0, 1) := by decide +kernel
theorem dX3_isAction_5 : decode cX3_isAction 5 = .ok (.bipush 10, 2) := by decide +kernel
theorem dX3_isAction_7 : decode cX3_isAction 7 = .ok (.if_icmp .ge 7, 3) := by decide +kernel
theorem dX3_isAction_10 : decode cX3_isAction 10 = .ok (.iconst 1, 1) := by decide +kernel
theorem dX3_isAction_11 : decode cX3_isAction 11 = .ok (.goto 4, 3) := by decide +kernel
theorem dX3_isAction_14 : decode cX3_isAction 14 = .ok (.iconst 0, 1) := by decide +kernel
theorem dX3_isAction_15 : decode cX3_isAction 15 = .ok (.ireturn, 1) := by decide +kernel
theorem dX3_sortOfMask_0 : decode cX3_sortOfMask 0 = .ok (.iload_n 0, 1) := by decide +kernel
theorem dX3_sortOfMask_1 : decode cX3_sortOfMask 1 = .ok (.sipush 255, 3) := by decide +kernel
theorem dX3_sortOfMask_4 : decode cX3_sortOfMask 4 = .ok (.if_icmp .ne 5, 3) := by decide +kernel
theorem dX3_sortOfMask_7 : decode cX3_sortOfMask 7 = .ok (.iconst 0, 1) := by decide +kernel
theorem dX3_sortOfMask_8 : decode cX3_sortOfMask 8 = .ok (.ireturn, 1) := by decide +kernel
theorem dX3_sortOfMask_9 : decode cX3_sortOfMask 9 = .ok (.sipush 255, 3) := by decide +kernel
theorem dX3_sortOfMask_12 : decode cX3_sortOfMask 12 = .ok (.iload_n 0, 1) := by decide +kernel
theorem dX3_sortOfMask_13 : decode cX3_sortOfMask 13 = .ok (.isub, 1) := by decide +kernel
theorem dX3_sortOfMask_14 : decode cX3_sortOfMask 14 = .ok (.istore_n 1, 1) := by decide +kernel
theorem dX3_sortOfMask_15 : decode cX3_sortOfMask 15 = .ok (.iload_n 1, 1) := by decide +kernel
theorem dX3_sortOfMask_16 : decode cX3_sortOfMask 16 = .ok (.iload_n 1, 1) := by decide +kernel
theorem dX3_sortOfMask_17 : decode cX3_sortOfMask 17 = .ok (.iconst 1, 1) := by decide +kernel
theorem dX3_sortOfMask_18 : decode cX3_sortOfMask 18 = .ok (.iadd, 1) := by decide +kernel
theorem dX3_sortOfMask_19 : decode cX3_sortOfMask 19 = .ok (.iand, 1) := by decide +kernel
theorem dX3_sortOfMask_20 : decode cX3_sortOfMask 20 = .ok (.ifCond .ne 7, 3) := by decide +kernel
theorem dX3_sortOfMask_23 : decode cX3_sortOfMask 23 = .ok (.iconst 1, 1) := by decide +kernel
theorem dX3_sortOfMask_24 : decode cX3_sortOfMask 24 = .ok (.goto 4, 3) := by decide +kernel
theorem dX3_sortOfMask_27 : decode cX3_sortOfMask 27 = .ok (.iconst 2, 1) := by decide +kernel
theorem dX3_sortOfMask_28 : decode cX3_sortOfMask 28 = .ok (.ireturn, 1) := by decide +kernel
theorem dX3_blocksOf_0 : decode cX3_blocksOf 0 = .ok (.iload_n 0, 1) := by decide +kernel
theorem dX3_blocksOf_1 : decode cX3_blocksOf 1 = .ok (.istore_n 2, 1) := by decide +kernel
theorem dX3_blocksOf_2 : decode cX3_blocksOf 2 = .ok (.iconst 0, 1) := by decide +kernel
theorem dX3_blocksOf_3 : decode cX3_blocksOf 3 = .ok (.istore_n 3, 1) := by decide +kernel
theorem dX3_blocksOf_4 : decode cX3_blocksOf 4 = .ok (.iload_n 3, 1) := by decide +kernel
theorem dX3_blocksOf_5 : decode cX3_blocksOf 5 = .ok (.bipush 14, 2) := by decide +kernel
theorem dX3_blocksOf_7 : decode cX3_blocksOf 7 = .ok (.if_icmp .ge 24, 3) := by decide +kernel
theorem dX3_blocksOf_10 : decode cX3_blocksOf 10 = .ok (.iload_n 2, 1) := by decide +kernel
theorem dX3_blocksOf_11 : decode cX3_blocksOf 11 = .ok (.iload_n 1, 1) := by decide +kernel
theorem dX3_blocksOf_12 : decode cX3_blocksOf 12 = .ok (.if_icmp .le 5, 3) := by decide +kernel
theorem dX3_blocksOf_15 : decode cX3_blocksOf 15 = .ok (.iload_n 3, 1) := by decide +kernel
theorem dX3_blocksOf_16 : decode cX3_blocksOf 16 = .ok (.ireturn, 1) := by decide +kernel
theorem dX3_blocksOf_17 : decode cX3_blocksOf 17 = .ok (.iload_n 2, 1) := by decide +kernel
theorem dX3_blocksOf_18 : decode cX3_blocksOf 18 = .ok (.iload_n 2, 1) := by decide +kernel
theorem dX3_blocksOf_19 : decode cX3_blocksOf 19 = .ok (.iload_n 1, 1) := by decide +kernel
theorem dX3_blocksOf_20 : decode cX3_blocksOf 20 = .ok (.invokestatic 207, 3) := by decide +kernel
theorem dX3_blocksOf_23 : decode cX3_blocksOf 23 = .ok (.iadd, 1) := by decide +kernel
theorem dX3_blocksOf_24 : decode cX3_blocksOf 24 = .ok (.istore_n 2, 1) := by decide +kernel
theorem dX3_blocksOf_25 : decode cX3_blocksOf 25 = .ok (.iinc 3 1, 3) := by decide +kernel
theorem dX3_blocksOf_28 : decode cX3_blocksOf 28 = .ok (.goto (-24), 3) := by decide +kernel
theorem dX3_blocksOf_31 : decode cX3_blocksOf 31 = .ok (.bipush 14, 2) := by decide +kernel
theorem dX3_blocksOf_33 : decode cX3_blocksOf 33 = .ok (.ireturn, 1) := by decide +kernel
theorem dX3_blockSize_0 : decode cX3_blockSize 0 = .ok (.iconst 1, 1) := by decide +kernel
theorem dX3_blockSize_1 : decode cX3_blockSize 1 = .ok (.istore_n 2, 1) := by decide +kernel
theorem dX3_blockSize_2 : decode cX3_blockSize 2 = .ok (.iconst 2, 1) := by decide +kernel
theorem dX3_blockSize_3 : decode cX3_blockSize 3 = .ok (.istore_n 3, 1) := by decide +kernel
theorem dX3_blockSize_4 : decode cX3_blockSize 4 = .ok (.iload_n 3, 1) := by decide +kernel
theorem dX3_blockSize_5 : decode cX3_blockSize 5 = .ok (.sipush 256, 3) := by decide +kernel
theorem dX3_blockSize_8 : decode cX3_blockSize 8 = .ok (.if_icmp .gt 31, 3) := by decide +kernel
theorem dX3_blockSize_11 : decode cX3_blockSize 11 = .ok (.iload_n 0, 1) := by decide +kernel
theorem dX3_blockSize_12 : decode cX3_blockSize 12 = .ok (.iload_n 3, 1) := by decide +kernel
theorem dX3_blockSize_13 : decode cX3_blockSize 13 = .ok (.iconst 1, 1) := by decide +kernel
theorem dX3_blockSize_14 : decode cX3_blockSize 14 = .ok (.isub, 1) := by decide +kernel
theorem dX3_blockSize_15 : decode cX3_blockSize 15 = .ok (.iand, 1) := by decide +kernel
theorem dX3_blockSize_16 : decode cX3_blockSize 16 = .ok (.ifCond .ne 12, 3) := by decide +kernel
theorem dX3_blockSize_19 : decode cX3_blockSize 19 = .ok (.iload_n 0, 1) := by decide +kernel
theorem dX3_blockSize_20 : decode cX3_blockSize 20 = .ok (.iload_n 3, 1) := by decide +kernel
theorem dX3_blockSize_21 : decode cX3_blockSize 21 = .ok (.iadd, 1) := by decide +kernel
theorem dX3_blockSize_22 : decode cX3_blockSize 22 = .ok (.iconst 1, 1) := by decide +kernel
theorem dX3_blockSize_23 : decode cX3_blockSize 23 = .ok (.isub, 1) := by decide +kernel
theorem dX3_blockSize_24 : decode cX3_blockSize 24 = .ok (.iload_n 1, 1) := by decide +kernel
theorem dX3_blockSize_25 : decode cX3_blockSize 25 = .ok (.if_icmp .le 5, 3) := by decide +kernel
theorem dX3_blockSize_28 : decode cX3_blockSize 28 = .ok (.iload_n 2, 1) := by decide +kernel
theorem dX3_blockSize_29 : decode cX3_blockSize 29 = .ok (.ireturn, 1) := by decide +kernel
theorem dX3_blockSize_30 : decode cX3_blockSize 30 = .ok (.iload_n 3, 1) := by decide +kernel
theorem dX3_blockSize_31 : decode cX3_blockSize 31 = .ok (.istore_n 2, 1) := by decide +kernel
theorem dX3_blockSize_32 : decode cX3_blockSize 32 = .ok (.iload_n 3, 1) := by decide +kernel
theorem dX3_blockSize_33 : decode cX3_blockSize 33 = .ok (.iconst 2, 1) := by decide +kernel
theorem dX3_blockSize_34 : decode cX3_blockSize 34 = .ok (.imul, 1) := by decide +kernel
theorem dX3_blockSize_35 : decode cX3_blockSize 35 = .ok (.istore_n 3, 1) := by decide +kernel
theorem dX3_blockSize_36 : decode cX3_blockSize 36 = .ok (.goto (-32), 3) := by decide +kernel
theorem dX3_blockSize_39 : decode cX3_blockSize 39 = .ok (.iload_n 2, 1) := by decide +kernel
theorem dX3_blockSize_40 : decode cX3_blockSize 40 = .ok (.ireturn, 1) := by decide +kernel
theorem dX3_copyState_0 : decode cX3_copyState 0 = .ok (.aload_n 0, 1) := by decide +kernel
theorem dX3_copyState_1 : decode cX3_copyState 1 = .ok (.ifnull 12, 3) := by decide +kernel
theorem dX3_copyState_4 : decode cX3_copyState 4 = .ok (.aload_n 1, 1) := by decide +kernel
theorem dX3_copyState_5 : decode cX3_copyState 5 = .ok (.ifnull 8, 3) := by decide +kernel
theorem dX3_copyState_8 : decode cX3_copyState 8 = .ok (.aload_n 1, 1) := by decide +kernel
theorem dX3_copyState_9 : decode cX3_copyState 9 = .ok (.aload_n 0, 1) := by decide +kernel
theorem dX3_copyState_10 : decode cX3_copyState 10 = .ok (.invokevirtual 210, 3) := by decide +kernel
theorem dX3_copyState_13 : decode cX3_copyState 13 = .ok (.return_, 1) := by decide +kernel
theorem dJ6_bitCount_0f7a4_0 : decode cJ6_bitCount_0f7a4 0 = .ok (.iload_n 0, 1) := by decide +kernel
theorem dJ6_bitCount_0f7a4_1 : decode cJ6_bitCount_0f7a4 1 = .ok (.iload_n 0, 1) := by decide +kernel
theorem dJ6_bitCount_0f7a4_2 : decode cJ6_bitCount_0f7a4 2 = .ok (.iconst 1, 1) := by decide +kernel
theorem dJ6_bitCount_0f7a4_3 : decode cJ6_bitCount_0f7a4 3 = .ok (.iushr, 1) := by decide +kernel
theorem dJ6_bitCount_0f7a4_4 : decode cJ6_bitCount_0f7a4 4 = .ok (.ldc_w 265, 3) := by decide +kernel
theorem dJ6_bitCount_0f7a4_7 : decode cJ6_bitCount_0f7a4 7 = .ok (.iand, 1) := by decide +kernel
theorem dJ6_bitCount_0f7a4_8 : decode cJ6_bitCount_0f7a4 8 = .ok (.isub, 1) := by decide +kernel
theorem dJ6_bitCount_0f7a4_9 : decode cJ6_bitCount_0f7a4 9 = .ok (.istore_n 0, 1) := by decide +kernel
theorem dJ6_bitCount_0f7a4_10 : decode cJ6_bitCount_0f7a4 10 = .ok (.iload_n 0, 1) := by decide +kernel
theorem dJ6_bitCount_0f7a4_11 : decode cJ6_bitCount_0f7a4 11 = .ok (.ldc_w 266, 3) := by decide +kernel
theorem dJ6_bitCount_0f7a4_14 : decode cJ6_bitCount_0f7a4 14 = .ok (.iand, 1) := by decide +kernel
theorem dJ6_bitCount_0f7a4_15 : decode cJ6_bitCount_0f7a4 15 = .ok (.iload_n 0, 1) := by decide +kernel
theorem dJ6_bitCount_0f7a4_16 : decode cJ6_bitCount_0f7a4 16 = .ok (.iconst 2, 1) := by decide +kernel
theorem dJ6_bitCount_0f7a4_17 : decode cJ6_bitCount_0f7a4 17 = .ok (.iushr, 1) := by decide +kernel
theorem dJ6_bitCount_0f7a4_18 : decode cJ6_bitCount_0f7a4 18 = .ok (.ldc_w 266, 3) := by decide +kernel
theorem dJ6_bitCount_0f7a4_21 : decode cJ6_bitCount_0f7a4 21 = .ok (.iand, 1) := by decide +kernel
theorem dJ6_bitCount_0f7a4_22 : decode cJ6_bitCount_0f7a4 22 = .ok (.iadd, 1) := by decide +kernel
theorem dJ6_bitCount_0f7a4_23 : decode cJ6_bitCount_0f7a4 23 = .ok (.istore_n 0, 1) := by decide +kernel
theorem dJ6_bitCount_0f7a4_24 : decode cJ6_bitCount_0f7a4 24 = .ok (.iload_n 0, 1) := by decide +kernel
theorem dJ6_bitCount_0f7a4_25 : decode cJ6_bitCount_0f7a4 25 = .ok (.iload_n 0, 1) := by decide +kernel
theorem dJ6_bitCount_0f7a4_26 : decode cJ6_bitCount_0f7a4 26 = .ok (.iconst 4, 1) := by decide +kernel
theorem dJ6_bitCount_0f7a4_27 : decode cJ6_bitCount_0f7a4 27 = .ok (.iushr, 1) := by decide +kernel
theorem dJ6_bitCount_0f7a4_28 : decode cJ6_bitCount_0f7a4 28 = .ok (.iadd, 1) := by decide +kernel
theorem dJ6_bitCount_0f7a4_29 : decode cJ6_bitCount_0f7a4 29 = .ok (.ldc_w 267, 3) := by decide +kernel
theorem dJ6_bitCount_0f7a4_32 : decode cJ6_bitCount_0f7a4 32 = .ok (.iand, 1) := by decide +kernel
theorem dJ6_bitCount_0f7a4_33 : decode cJ6_bitCount_0f7a4 33 = .ok (.istore_n 0, 1) := by decide +kernel
theorem dJ6_bitCount_0f7a4_34 : decode cJ6_bitCount_0f7a4 34 = .ok (.iload_n 0, 1) := by decide +kernel
theorem dJ6_bitCount_0f7a4_35 : decode cJ6_bitCount_0f7a4 35 = .ok (.iload_n 0, 1) := by decide +kernel
theorem dJ6_bitCount_0f7a4_36 : decode cJ6_bitCount_0f7a4 36 = .ok (.bipush 8, 2) := by decide +kernel
theorem dJ6_bitCount_0f7a4_38 : decode cJ6_bitCount_0f7a4 38 = .ok (.iushr, 1) := by decide +kernel
theorem dJ6_bitCount_0f7a4_39 : decode cJ6_bitCount_0f7a4 39 = .ok (.iadd, 1) := by decide +kernel
theorem dJ6_bitCount_0f7a4_40 : decode cJ6_bitCount_0f7a4 40 = .ok (.istore_n 0, 1) := by decide +kernel
theorem dJ6_bitCount_0f7a4_41 : decode cJ6_bitCount_0f7a4 41 = .ok (.iload_n 0, 1) := by decide +kernel
theorem dJ6_bitCount_0f7a4_42 : decode cJ6_bitCount_0f7a4 42 = .ok (.iload_n 0, 1) := by decide +kernel
theorem dJ6_bitCount_0f7a4_43 : decode cJ6_bitCount_0f7a4 43 = .ok (.bipush 16, 2) := by decide +kernel
theorem dJ6_bitCount_0f7a4_45 : decode cJ6_bitCount_0f7a4 45 = .ok (.iushr, 1) := by decide +kernel
theorem dJ6_bitCount_0f7a4_46 : decode cJ6_bitCount_0f7a4 46 = .ok (.iadd, 1) := by decide +kernel
theorem dJ6_bitCount_0f7a4_47 : decode cJ6_bitCount_0f7a4 47 = .ok (.istore_n 0, 1) := by decide +kernel
theorem dJ6_bitCount_0f7a4_48 : decode cJ6_bitCount_0f7a4 48 = .ok (.iload_n 0, 1) := by decide +kernel
theorem dJ6_bitCount_0f7a4_49 : decode cJ6_bitCount_0f7a4 49 = .ok (.bipush 63, 2) := by decide +kernel
theorem dJ6_bitCount_0f7a4_51 : decode cJ6_bitCount_0f7a4 51 = .ok (.iand, 1) := by decide +kernel
theorem dJ6_bitCount_0f7a4_52 : decode cJ6_bitCount_0f7a4 52 = .ok (.ireturn, 1) := by decide +kernel
theorem dJ9_floorMod_7cf53_0 : decode cJ9_floorMod_7cf53 0 = .ok (.iload_n 0, 1) := by decide +kernel
theorem dJ9_floorMod_7cf53_1 : decode cJ9_floorMod_7cf53 1 = .ok (.iload_n 1, 1) := by decide +kernel
theorem dJ9_floorMod_7cf53_2 : decode cJ9_floorMod_7cf53 2 = .ok (.irem, 1) := by decide +kernel
theorem dJ9_floorMod_7cf53_3 : decode cJ9_floorMod_7cf53 3 = .ok (.istore_n 2, 1) := by decide +kernel
theorem dJ9_floorMod_7cf53_4 : decode cJ9_floorMod_7cf53 4 = .ok (.iload_n 0, 1) := by decide +kernel
theorem dJ9_floorMod_7cf53_5 : decode cJ9_floorMod_7cf53 5 = .ok (.iload_n 1, 1) := by decide +kernel
theorem dJ9_floorMod_7cf53_6 : decode cJ9_floorMod_7cf53 6 = .ok (.ixor, 1) := by decide +kernel
theorem dJ9_floorMod_7cf53_7 : decode cJ9_floorMod_7cf53 7 = .ok (.ifCond .ge 11, 3) := by decide +kernel
theorem dJ9_floorMod_7cf53_10 : decode cJ9_floorMod_7cf53 10 = .ok (.iload_n 2, 1) := by decide +kernel
theorem dJ9_floorMod_7cf53_11 : decode cJ9_floorMod_7cf53 11 = .ok (.ifCond .eq 7, 3) := by decide +kernel
theorem dJ9_floorMod_7cf53_14 : decode cJ9_floorMod_7cf53 14 = .ok (.iload_n 2, 1) := by decide +kernel
theorem dJ9_floorMod_7cf53_15 : decode cJ9_floorMod_7cf53 15 = .ok (.iload_n 1, 1) := by decide +kernel
theorem dJ9_floorMod_7cf53_16 : decode cJ9_floorMod_7cf53 16 = .ok (.iadd, 1) := by decide +kernel
theorem dJ9_floorMod_7cf53_17 : decode cJ9_floorMod_7cf53 17 = .ok (.ireturn, 1) := by decide +kernel
theorem dJ9_floorMod_7cf53_18 : decode cJ9_floorMod_7cf53 18 = .ok (.iload_n 2, 1) := by decide +kernel
theorem dJ9_floorMod_7cf53_19 : decode cJ9_floorMod_7cf53 19 = .ok (.ireturn, 1) := by decide +kernel
theorem dJ9_min_7cf53_0 : decode cJ9_min_7cf53 0 = .ok (.iload_n 0, 1) := by decide +kernel
theorem dJ9_min_7cf53_1 : decode cJ9_min_7cf53 1 = .ok (.iload_n 1, 1) := by decide +kernel
theorem dJ9_min_7cf53_2 : decode cJ9_min_7cf53 2 = .ok (.if_icmp .gt 7, 3) := by decide +kernel
theorem dJ9_min_7cf53_5 : decode cJ9_min_7cf53 5 = .ok (.iload_n 0, 1) := by decide +kernel
theorem dJ9_min_7cf53_6 : decode cJ9_min_7cf53 6 = .ok (.goto 4, 3) := by decide +kernel
theorem dJ9_min_7cf53_9 : decode cJ9_min_7cf53 9 = .ok (.iload_n 1, 1) := by decide +kernel
theorem dJ9_min_7cf53_10 : decode cJ9_min_7cf53 10 = .ok (.ireturn, 1) := by decide +kernel
end
section
theorem dX4_init_0 : decode cX4_init 0 = .ok (.aload_n 0, 1) := by decide +kernel
theorem dX4_init_1 : decode cX4_init 1 = .ok (.invokespecial 1, 3) := by decide +kernel
theorem dX4_init_4 : decode cX4_init 4 = .ok (.aload_n 0, 1) := by decide +kernel
theorem dX4_init_5 : decode cX4_init 5 = .ok (.sipush 229, 3) := by decide +kernel
theorem dX4_init_8 : decode cX4_init 8 = .ok (.newarray .int, 2) := by decide +kernel
theorem dX4_init_10 : decode cX4_init 10 = .ok (.putfield 7, 3) := by decide +kernel
theorem dX4_init_13 : decode cX4_init 13 = .ok (.aload_n 0, 1) := by decide +kernel
theorem dX4_init_14 : decode cX4_init 14 = .ok (.sipush 229, 3) := by decide +kernel
theorem dX4_init_17 : decode cX4_init 17 = .ok (.newarray .int, 2) := by decide +kernel
theorem dX4_init_19 : decode cX4_init 19 = .ok (.putfield 13, 3) := by decide +kernel
theorem dX4_init_22 : decode cX4_init 22 = .ok (.aload_n 0, 1) := by decide +kernel
theorem dX4_init_23 : decode cX4_init 23 = .ok (.sipush 916, 3) := by decide +kernel
theorem dX4_init_26 : decode cX4_init 26 = .ok (.newarray .int, 2) := by decide +kernel
theorem dX4_init_28 : decode cX4_init 28 = .ok (.putfield 16, 3) := by decide +kernel
theorem dX4_init_31 : decode cX4_init 31 = .ok (.aload_n 0, 1) := by decide +kernel
theorem dX4_init_32 : decode cX4_init 32 = .ok (.sipush 229, 3) := by decide +kernel
theorem dX4_init_35 : decode cX4_init 35 = .ok (.newarray .int, 2) := by decide +kernel
theorem dX4_init_37 : decode cX4_init 37 = .ok (.putfield 19, 3) := by decide +kernel
theorem dX4_init_40 : decode cX4_init 40 = .ok (.aload_n 0, 1) := by decide +kernel
theorem dX4_init_41 : decode cX4_init 41 = .ok (.bipush 60, 2) := by decide +kernel
theorem dX4_init_43 : decode cX4_init 43 = .ok (.newarray .int, 2) := by decide +kernel
theorem dX4_init_45 : decode cX4_init 45 = .ok (.putfield 22, 3) := by decide +kernel
theorem dX4_init_48 : decode cX4_init 48 = .ok (.aload_n 0, 1) := by decide +kernel
theorem dX4_init_49 : decode cX4_init 49 = .ok (.bipush 24, 2) := by decide +kernel
theorem dX4_init_51 : decode cX4_init 51 = .ok (.newarray .int, 2) := by decide +kernel
theorem dX4_init_53 : decode cX4_init 53 = .ok (.putfield 25, 3) := by decide +kernel
theorem dX4_init_56 : decode cX4_init 56 = .ok (.return_, 1) := by decide +kernel
theorem dX4_in_0 : decode cX4_in 0 = .ok (.iload_n 0, 1) := by decide +kernel
theorem dX4_in_1 : decode cX4_in 1 = .ok (.iload_n 1, 1) := by decide +kernel
theorem dX4_in_2 : decode cX4_in 2 = .ok (.if_icmp .lt 12, 3) := by decide +kernel
theorem dX4_in_5 : decode cX4_in 5 = .ok (.iload_n 0, 1) := by decide +kernel
theorem dX4_in_6 : decode cX4_in 6 = .ok (.iload_n 2, 1) := by decide +kernel
theorem dX4_in_7 : decode cX4_in 7 = .ok (.if_icmp .gt 7, 3) := by decide +kernel
theorem dX4_in_10 : decode cX4_in 10 = .ok (.iconst 1, 1) := by decide +kernel
theorem dX4_in_11 : decode cX4_in 11 = .ok (.goto 4, 3) := by decide +kernel
theorem dX4_in_14 : decode cX4_in 14 = .ok (.iconst 0, 1) := by decide +kernel
theorem dX4_in_15 : decode cX4_in 15 = .ok (.ireturn, 1) := by decide +kernel
theorem dX4_at_0 : decode cX4_at 0 = .ok (.aload_n 0, 1) := by decide +kernel
theorem dX4_at_1 : decode cX4_at 1 = .ok (.getfield 7, 3) := by decide +kernel
theorem dX4_at_4 : decode cX4_at 4 = .ok (.bipush 7, 2) := by decide +kernel
theorem dX4_at_6 : decode cX4_at 6 = .ok (.iload_n 1, 1) := by decide +kernel
theorem dX4_at_7 : decode cX4_at 7 = .ok (.imul, 1) := by decide +kernel
theorem dX4_at_8 : decode cX4_at 8 = .ok (.iload_n 2, 1) := by decide +kernel
theorem dX4_at_9 : decode cX4_at 9 = .ok (.iadd, 1) := by decide +kernel
theorem dX4_at_10 : decode cX4_at 10 = .ok (.iaload, 1) := by decide +kernel
theorem dX4_at_11 : decode cX4_at 11 = .ok (.ireturn, 1) := by decide +kernel
theorem dX4_isFree_0 : decode cX4_isFree 0 = .ok (.aload_n 0, 1) := by decide +kernel
theorem dX4_isFree_1 : decode cX4_isFree 1 = .ok (.getfield 7, 3) := by decide +kernel
theorem dX4_isFree_4 : decode cX4_isFree 4 = .ok (.bipush 7, 2) := by decide +kernel
theorem dX4_isFree_6 : decode cX4_isFree 6 = .ok (.iload_n 1, 1) := by decide +kernel
theorem dX4_isFree_7 : decode cX4_isFree 7 = .ok (.imul, 1) := by decide +kernel
theorem dX4_isFree_8 : decode cX4_isFree 8 = .ok (.iconst 0, 1) := by decide +kernel
theorem dX4_isFree_9 : decode cX4_isFree 9 = .ok (.iadd, 1) := by decide +kernel
theorem dX4_isFree_10 : decode cX4_isFree 10 = .ok (.iaload, 1) := by decide +kernel
theorem dX4_isFree_11 : decode cX4_isFree 11 = .ok (.ifCond .ne 7, 3) := by decide +kernel
theorem dX4_isFree_14 : decode cX4_isFree 14 = .ok (.iconst 1, 1) := by decide +kernel
theorem dX4_isFree_15 : decode cX4_isFree 15 = .ok (.goto 4, 3) := by decide +kernel
theorem dX4_isFree_18 : decode cX4_isFree 18 = .ok (.iconst 0, 1) := by decide +kernel
theorem dX4_isFree_19 : decode cX4_isFree 19 = .ok (.ireturn, 1) := by decide +kernel
theorem dX4_isSlot_0 : decode cX4_isSlot 0 = .ok (.iload_n 0, 1) := by decide +kernel
theorem dX4_isSlot_1 : decode cX4_isSlot 1 = .ok (.iconst 0, 1) := by decide +kernel
theorem dX4_isSlot_2 : decode cX4_isSlot 2 = .ok (.bipush 31, 2) := by decide +kernel
theorem dX4_isSlot_4 : decode cX4_isSlot 4 = .ok (.invokestatic 28, 3) := by decide +kernel
theorem dX4_isSlot_7 : decode cX4_isSlot 7 = .ok (.ireturn, 1) := by decide +kernel
theorem dX4_copyState_0 : decode cX4_copyState 0 = .ok (.iconst 0, 1) := by decide +kernel
theorem dX4_copyState_1 : decode cX4_copyState 1 = .ok (.istore 4, 2) := by decide +kernel
theorem dX4_copyState_3 : decode cX4_copyState 3 = .ok (.iload 4, 2) := by decide +kernel
theorem dX4_copyState_5 : decode cX4_copyState 5 = .ok (.sipush 229, 3) := by decide +kernel
theorem dX4_copyState_8 : decode cX4_copyState 8 = .ok (.if_icmp .ge 21, 3) := by decide +kernel
theorem dX4_copyState_11 : decode cX4_copyState 11 = .ok (.aload_n 2, 1) := by decide +kernel
theorem dX4_copyState_12 : decode cX4_copyState 12 = .ok (.iload_n 3, 1) := by decide +kernel
theorem dX4_copyState_13 : decode cX4_copyState 13 = .ok (.iload 4, 2) := by decide +kernel
theorem dX4_copyState_15 : decode cX4_copyState 15 = .ok (.iadd, 1) := by decide +kernel
theorem dX4_copyState_16 : decode cX4_copyState 16 = .ok (.aload_n 0, 1) := by decide +kernel
theorem dX4_copyState_17 : decode cX4_copyState 17 = .ok (.iload_n 1, 1) := by decide +kernel
theorem dX4_copyState_18 : decode cX4_copyState 18 = .ok (.iload 4, 2) := by decide +kernel
theorem dX4_copyState_20 : decode cX4_copyState 20 = .ok (.iadd, 1) := by decide +kernel
theorem dX4_copyState_21 : decode cX4_copyState 21 = .ok (.iaload, 1) := by decide +kernel
theorem dX4_copyState_22 : decode cX4_copyState 22 = .ok (.iastore, 1) := by decide +kernel
theorem dX4_copyState_23 : decode cX4_copyState 23 = .ok (.iinc 4 1, 3) := by decide +kernel
theorem dX4_copyState_26 : decode cX4_copyState 26 = .ok (.goto (-23), 3) := by decide +kernel
theorem dX4_copyState_29 : decode cX4_copyState 29 = .ok (.return_, 1) := by decide +kernel
theorem dX4_record_0 : decode cX4_record 0 = .ok (.aload_n 0, 1) := by decide +kernel
theorem dX4_record_1 : decode cX4_record 1 = .ok (.getfield 32, 3) := by decide +kernel
theorem dX4_record_4 : decode cX4_record 4 = .ok (.iconst 4, 1) := by decide +kernel
theorem dX4_record_5 : decode cX4_record 5 = .ok (.if_icmp .ne 44, 3) := by decide +kernel
theorem dX4_record_8 : decode cX4_record 8 = .ok (.iconst 0, 1) := by decide +kernel
theorem dX4_record_9 : decode cX4_record 9 = .ok (.istore_n 1, 1) := by decide +kernel
theorem dX4_record_10 : decode cX4_record 10 = .ok (.iload_n 1, 1) := by decide +kernel
theorem dX4_record_11 : decode cX4_record 11 = .ok (.sipush 687, 3) := by decide +kernel
theorem dX4_record_14 : decode cX4_record 14 = .ok (.if_icmp .ge 25, 3) := by decide +kernel
theorem dX4_record_17 : decode cX4_record 17 = .ok (.aload_n 0, 1) := by decide +kernel
theorem dX4_record_18 : decode cX4_record 18 = .ok (.getfield 16, 3) := by decide +kernel
theorem dX4_record_21 : decode cX4_record 21 = .ok (.iload_n 1, 1) := by decide +kernel
theorem dX4_record_22 : decode cX4_record 22 = .ok (.aload_n 0, 1) := by decide +kernel
theorem dX4_record_23 : decode cX4_record 23 = .ok (.getfield 16, 3) := by decide +kernel
theorem dX4_record_26 : decode cX4_record 26 = .ok (.iload_n 1, 1) := by decide +kernel
theorem dX4_record_27 : decode cX4_record 27 = .ok (.sipush 229, 3) := by decide +kernel
theorem dX4_record_30 : decode cX4_record 30 = .ok (.iadd, 1) := by decide +kernel
theorem dX4_record_31 : decode cX4_record 31 = .ok (.iaload, 1) := by decide +kernel
theorem dX4_record_32 : decode cX4_record 32 = .ok (.iastore, 1) := by decide +kernel
theorem dX4_record_33 : decode cX4_record 33 = .ok (.iinc 1 1, 3) := by decide +kernel
theorem dX4_record_36 : decode cX4_record 36 = .ok (.goto (-26), 3) := by decide +kernel
theorem dX4_record_39 : decode cX4_record 39 = .ok (.aload_n 0, 1) := by decide +kernel
theorem dX4_record_40 : decode cX4_record 40 = .ok (.dup, 1) := by decide +kernel
theorem dX4_record_41 : decode cX4_record 41 = .ok (.getfield 32, 3) := by decide +kernel
theorem dX4_record_44 : decode cX4_record 44 = .ok (.iconst 1, 1) := by decide +kernel
theorem dX4_record_45 : decode cX4_record 45 = .ok (.isub, 1) := by decide +kernel
theorem dX4_record_46 : decode cX4_record 46 = .ok (.putfield 32, 3) := by decide +kernel
theorem dX4_record_49 : decode cX4_record 49 = .ok (.aload_n 0, 1) := by decide +kernel
theorem dX4_record_50 : decode cX4_record 50 = .ok (.getfield 7, 3) := by decide +kernel
theorem dX4_record_53 : decode cX4_record 53 = .ok (.iconst 0, 1) := by decide +kernel
theorem dX4_record_54 : decode cX4_record 54 = .ok (.aload_n 0, 1) := by decide +kernel
theorem dX4_record_55 : decode cX4_record 55 = .ok (.getfield 16, 3) := by decide +kernel
theorem dX4_record_58 : decode cX4_record 58 = .ok (.sipush 229, 3) := by decide +kernel
theorem dX4_record_61 : decode cX4_record 61 = .ok (.aload_n 0, 1) := by decide +kernel
theorem dX4_record_62 : decode cX4_record 62 = .ok (.getfield 32, 3) := by decide +kernel
theorem dX4_record_65 : decode cX4_record 65 = .ok (.imul, 1) := by decide +kernel
theorem dX4_record_66 : decode cX4_record 66 = .ok (.invokestatic 36, 3) := by decide +kernel
theorem dX4_record_69 : decode cX4_record 69 = .ok (.aload_n 0, 1) := by decide +kernel
theorem dX4_record_70 : decode cX4_record 70 = .ok (.dup, 1) := by decide +kernel
theorem dX4_record_71 : decode cX4_record 71 = .ok (.getfield 32, 3) := by decide +kernel
theorem dX4_record_74 : decode cX4_record 74 = .ok (.iconst 1, 1) := by decide +kernel
theorem dX4_record_75 : decode cX4_record 75 = .ok (.iadd, 1) := by decide +kernel
theorem dX4_record_76 : decode cX4_record 76 = .ok (.putfield 32, 3) := by decide +kernel
theorem dX4_record_79 : decode cX4_record 79 = .ok (.return_, 1) := by decide +kernel
theorem dX4_undo_0 : decode cX4_undo 0 = .ok (.aload_n 0, 1) := by decide +kernel
theorem dX4_undo_1 : decode cX4_undo 1 = .ok (.getfield 32, 3) := by decide +kernel
theorem dX4_undo_4 : decode cX4_undo 4 = .ok (.ifCond .ne 6, 3) := by decide +kernel
theorem dX4_undo_7 : decode cX4_undo 7 = .ok (.bipush (-4), 2) := by decide +kernel
theorem dX4_undo_9 : decode cX4_undo 9 = .ok (.ireturn, 1) := by decide +kernel
theorem dX4_undo_10 : decode cX4_undo 10 = .ok (.aload_n 0, 1) := by decide +kernel
theorem dX4_undo_11 : decode cX4_undo 11 = .ok (.dup, 1) := by decide +kernel
theorem dX4_undo_12 : decode cX4_undo 12 = .ok (.getfield 32, 3) := by decide +kernel
theorem dX4_undo_15 : decode cX4_undo 15 = .ok (.iconst 1, 1) := by decide +kernel
theorem dX4_undo_16 : decode cX4_undo 16 = .ok (.isub, 1) := by decide +kernel
theorem dX4_undo_17 : decode cX4_undo 17 = .ok (.putfield 32, 3) := by decide +kernel
theorem dX4_undo_20 : decode cX4_undo 20 = .ok (.aload_n 0, 1) := by decide +kernel
theorem dX4_undo_21 : decode cX4_undo 21 = .ok (.getfield 16, 3) := by decide +kernel
theorem dX4_undo_24 : decode cX4_undo 24 = .ok (.sipush 229, 3) := by decide +kernel
theorem dX4_undo_27 : decode cX4_undo 27 = .ok (.aload_n 0, 1) := by decide +kernel
theorem dX4_undo_28 : decode cX4_undo 28 = .ok (.getfield 32, 3) := by decide +kernel
theorem dX4_undo_31 : decode cX4_undo 31 = .ok (.imul, 1) := by decide +kernel
theorem dX4_undo_32 : decode cX4_undo 32 = .ok (.aload_n 0, 1) := by decide +kernel
theorem dX4_undo_33 : decode cX4_undo 33 = .ok (.getfield 7, 3) := by decide +kernel
theorem dX4_undo_36 : decode cX4_undo 36 = .ok (.iconst 0, 1) := by decide +kernel
theorem dX4_undo_37 : decode cX4_undo 37 = .ok (.invokestatic 36, 3) := by decide +kernel
theorem dX4_undo_40 : decode cX4_undo 40 = .ok (.aload_n 0, 1) := by decide +kernel
theorem dX4_undo_41 : decode cX4_undo 41 = .ok (.getfield 32, 3) := by decide +kernel
theorem dX4_undo_44 : decode cX4_undo 44 = .ok (.ireturn, 1) := by decide +kernel
theorem dX4_keep_0 : decode cX4_keep 0 = .ok (.aload_n 0, 1) := by decide +kernel
theorem dX4_keep_1 : decode cX4_keep 1 = .ok (.getfield 7, 3) := by decide +kernel
theorem dX4_keep_4 : decode cX4_keep 4 = .ok (.iconst 0, 1) := by decide +kernel
theorem dX4_keep_5 : decode cX4_keep 5 = .ok (.aload_n 0, 1) := by decide +kernel
theorem dX4_keep_6 : decode cX4_keep 6 = .ok (.getfield 19, 3) := by decide +kernel
theorem dX4_keep_9 : decode cX4_keep 9 = .ok (.iconst 0, 1) := by decide +kernel
theorem dX4_keep_10 : decode cX4_keep 10 = .ok (.invokestatic 36, 3) := by decide +kernel
theorem dX4_keep_13 : decode cX4_keep 13 = .ok (.aload_n 0, 1) := by decide +kernel
theorem dX4_keep_14 : decode cX4_keep 14 = .ok (.iconst 1, 1) := by decide +kernel
theorem dX4_keep_15 : decode cX4_keep 15 = .ok (.putfield 40, 3) := by decide +kernel
theorem dX4_keep_18 : decode cX4_keep 18 = .ok (.aload_n 0, 1) := by decide +kernel
theorem dX4_keep_19 : decode cX4_keep 19 = .ok (.invokevirtual 44, 3) := by decide +kernel
theorem dX4_keep_22 : decode cX4_keep 22 = .ok (.ireturn, 1) := by decide +kernel
theorem dX4_restore_0 : decode cX4_restore 0 = .ok (.aload_n 0, 1) := by decide +kernel
theorem dX4_restore_1 : decode cX4_restore 1 = .ok (.getfield 40, 3) := by decide +kernel
theorem dX4_restore_4 : decode cX4_restore 4 = .ok (.ifCond .ne 6, 3) := by decide +kernel
theorem dX4_restore_7 : decode cX4_restore 7 = .ok (.bipush (-4), 2) := by decide +kernel
theorem dX4_restore_9 : decode cX4_restore 9 = .ok (.ireturn, 1) := by decide +kernel
theorem dX4_restore_10 : decode cX4_restore 10 = .ok (.aload_n 0, 1) := by decide +kernel
theorem dX4_restore_11 : decode cX4_restore 11 = .ok (.invokevirtual 48, 3) := by decide +kernel
theorem dX4_restore_14 : decode cX4_restore 14 = .ok (.aload_n 0, 1) := by decide +kernel
theorem dX4_restore_15 : decode cX4_restore 15 = .ok (.getfield 19, 3) := by decide +kernel
theorem dX4_restore_18 : decode cX4_restore 18 = .ok (.iconst 0, 1) := by decide +kernel
theorem dX4_restore_19 : decode cX4_restore 19 = .ok (.aload_n 0, 1) := by decide +kernel
theorem dX4_restore_20 : decode cX4_restore 20 = .ok (.getfield 7, 3) := by decide +kernel
theorem dX4_restore_23 : decode cX4_restore 23 = .ok (.iconst 0, 1) := by decide +kernel
theorem dX4_restore_24 : decode cX4_restore 24 = .ok (.invokestatic 36, 3) := by decide +kernel
theorem dX4_restore_27 : decode cX4_restore 27 = .ok (.aload_n 0, 1) := by decide +kernel
theorem dX4_restore_28 : decode cX4_restore 28 = .ok (.invokevirtual 44, 3) := by decide +kernel
theorem dX4_restore_31 : decode cX4_restore 31 = .ok (.ireturn, 1) := by decide +kernel
theorem dX4_entries_0 : decode cX4_entries 0 = .ok (.iconst 0, 1) := by decide +kernel
theorem dX4_entries_1 : decode cX4_entries 1 = .ok (.istore_n 1, 1) := by decide +kernel
theorem dX4_entries_2 : decode cX4_entries 2 = .ok (.iconst 0, 1) := by decide +kernel
theorem dX4_entries_3 : decode cX4_entries 3 = .ok (.istore_n 2, 1) := by decide +kernel
theorem dX4_entries_4 : decode cX4_entries 4 = .ok (.iload_n 2, 1) := by decide +kernel
theorem dX4_entries_5 : decode cX4_entries 5 = .ok (.bipush 32, 2) := by decide +kernel
theorem dX4_entries_7 : decode cX4_entries 7 = .ok (.if_icmp .ge 25, 3) := by decide +kernel
theorem dX4_entries_10 : decode cX4_entries 10 = .ok (.iload_n 1, 1) := by decide +kernel
theorem dX4_entries_11 : decode cX4_entries 11 = .ok (.aload_n 0, 1) := by decide +kernel
theorem dX4_entries_12 : decode cX4_entries 12 = .ok (.iload_n 2, 1) := by decide +kernel
theorem dX4_entries_13 : decode cX4_entries 13 = .ok (.invokevirtual 51, 3) := by decide +kernel
theorem dX4_entries_16 : decode cX4_entries 16 = .ok (.ifCond .eq 7, 3) := by decide +kernel
theorem dX4_entries_19 : decode cX4_entries 19 = .ok (.iconst 0, 1) := by decide +kernel
theorem dX4_entries_20 : decode cX4_entries 20 = .ok (.goto 4, 3) := by decide +kernel
theorem dX4_entries_23 : decode cX4_entries 23 = .ok (.iconst 1, 1) := by decide +kernel
theorem dX4_entries_24 : decode cX4_entries 24 = .ok (.iadd, 1) := by decide +kernel
theorem dX4_entries_25 : decode cX4_entries 25 = .ok (.istore_n 1, 1) := by decide +kernel
theorem dX4_entries_26 : decode cX4_entries 26 = .ok (.iinc 2 1, 3) := by decide +kernel
theorem dX4_entries_29 : decode cX4_entries 29 = .ok (.goto (-25), 3) := by decide +kernel
theorem dX4_entries_32 : decode cX4_entries 32 = .ok (.iload_n 1, 1) := by decide +kernel
theorem dX4_entries_33 : decode cX4_entries 33 = .ok (.ireturn, 1) := by decide +kernel
theorem dX4_freeSlots_0 : decode cX4_freeSlots 0 = .ok (.bipush 32, 2) := by decide +kernel
theorem dX4_freeSlots_2 : decode cX4_freeSlots 2 = .ok (.aload_n 0, 1) := by decide +kernel
theorem dX4_freeSlots_3 : decode cX4_freeSlots 3 = .ok (.invokevirtual 44, 3) := by decide +kernel
theorem dX4_freeSlots_6 : decode cX4_freeSlots 6 = .ok (.isub, 1) := by decide +kernel
theorem dX4_freeSlots_7 : decode cX4_freeSlots 7 = .ok (.ireturn, 1) := by decide +kernel
theorem dX4_lastUpTo_0 : decode cX4_lastUpTo 0 = .ok (.iconst (-1), 1) := by decide +kernel
theorem dX4_lastUpTo_1 : decode cX4_lastUpTo 1 = .ok (.istore_n 2, 1) := by decide +kernel
theorem dX4_lastUpTo_2 : decode cX4_lastUpTo 2 = .ok (.iconst 0, 1) := by decide +kernel
theorem dX4_lastUpTo_3 : decode cX4_lastUpTo 3 = .ok (.istore_n 3, 1) := by decide +kernel
theorem dX4_lastUpTo_4 : decode cX4_lastUpTo 4 = .ok (.iload_n 3, 1) := by decide +kernel
theorem dX4_lastUpTo_5 : decode cX4_lastUpTo 5 = .ok (.bipush 32, 2) := by decide +kernel
theorem dX4_lastUpTo_7 : decode cX4_lastUpTo 7 = .ok (.if_icmp .ge 33, 3) := by decide +kernel
theorem dX4_lastUpTo_10 : decode cX4_lastUpTo 10 = .ok (.aload_n 0, 1) := by decide +kernel
theorem dX4_lastUpTo_11 : decode cX4_lastUpTo 11 = .ok (.iload_n 3, 1) := by decide +kernel
theorem dX4_lastUpTo_12 : decode cX4_lastUpTo 12 = .ok (.invokevirtual 51, 3) := by decide +kernel
theorem dX4_lastUpTo_15 : decode cX4_lastUpTo 15 = .ok (.ifCond .ne 17, 3) := by decide +kernel
theorem dX4_lastUpTo_18 : decode cX4_lastUpTo 18 = .ok (.aload_n 0, 1) := by decide +kernel
theorem dX4_lastUpTo_19 : decode cX4_lastUpTo 19 = .ok (.iload_n 3, 1) := by decide +kernel
theorem dX4_lastUpTo_20 : decode cX4_lastUpTo 20 = .ok (.iconst 4, 1) := by decide +kernel
theorem dX4_lastUpTo_21 : decode cX4_lastUpTo 21 = .ok (.invokevirtual 55, 3) := by decide +kernel
theorem dX4_lastUpTo_24 : decode cX4_lastUpTo 24 = .ok (.iload_n 1, 1) := by decide +kernel
theorem dX4_lastUpTo_25 : decode cX4_lastUpTo 25 = .ok (.if_icmp .gt 7, 3) := by decide +kernel
theorem dX4_lastUpTo_28 : decode cX4_lastUpTo 28 = .ok (.iload_n 3, 1) := by decide +kernel
theorem dX4_lastUpTo_29 : decode cX4_lastUpTo 29 = .ok (.goto 4, 3) := by decide +kernel
theorem dX4_lastUpTo_32 : decode cX4_lastUpTo 32 = .ok (.iload_n 2, 1) := by decide +kernel
theorem dX4_lastUpTo_33 : decode cX4_lastUpTo 33 = .ok (.istore_n 2, 1) := by decide +kernel
theorem dX4_lastUpTo_34 : decode cX4_lastUpTo 34 = .ok (.iinc 3 1, 3) := by decide +kernel
theorem dX4_lastUpTo_37 : decode cX4_lastUpTo 37 = .ok (.goto (-33), 3) := by decide +kernel
theorem dX4_lastUpTo_40 : decode cX4_lastUpTo 40 = .ok (.iload_n 2, 1) := by decide +kernel
theorem dX4_lastUpTo_41 : decode cX4_lastUpTo 41 = .ok (.ireturn, 1) := by decide +kernel
theorem dX4_firstAbove_0 : decode cX4_firstAbove 0 = .ok (.bipush 32, 2) := by decide +kernel
theorem dX4_firstAbove_2 : decode cX4_firstAbove 2 = .ok (.istore_n 2, 1) := by decide +kernel
theorem dX4_firstAbove_3 : decode cX4_firstAbove 3 = .ok (.bipush 31, 2) := by decide +kernel
theorem dX4_firstAbove_5 : decode cX4_firstAbove 5 = .ok (.istore_n 3, 1) := by decide +kernel
theorem dX4_firstAbove_6 : decode cX4_firstAbove 6 = .ok (.iload_n 3, 1) := by decide +kernel
theorem dX4_firstAbove_7 : decode cX4_firstAbove 7 = .ok (.ifCond .lt 33, 3) := by decide +kernel
theorem dX4_firstAbove_10 : decode cX4_firstAbove 10 = .ok (.aload_n 0, 1) := by decide +kernel
theorem dX4_firstAbove_11 : decode cX4_firstAbove 11 = .ok (.iload_n 3, 1) := by decide +kernel
theorem dX4_firstAbove_12 : decode cX4_firstAbove 12 = .ok (.invokevirtual 51, 3) := by decide +kernel
theorem dX4_firstAbove_15 : decode cX4_firstAbove 15 = .ok (.ifCond .ne 17, 3) := by decide +kernel
theorem dX4_firstAbove_18 : decode cX4_firstAbove 18 = .ok (.aload_n 0, 1) := by decide +kernel
theorem dX4_firstAbove_19 : decode cX4_firstAbove 19 = .ok (.iload_n 3, 1) := by decide +kernel
theorem dX4_firstAbove_20 : decode cX4_firstAbove 20 = .ok (.iconst 4, 1) := by decide +kernel
theorem dX4_firstAbove_21 : decode cX4_firstAbove 21 = .ok (.invokevirtual 55, 3) := by decide +kernel
theorem dX4_firstAbove_24 : decode cX4_firstAbove 24 = .ok (.iload_n 1, 1) := by decide +kernel
theorem dX4_firstAbove_25 : decode cX4_firstAbove 25 = .ok (.if_icmp .le 7, 3) := by decide +kernel
theorem dX4_firstAbove_28 : decode cX4_firstAbove 28 = .ok (.iload_n 3, 1) := by decide +kernel
theorem dX4_firstAbove_29 : decode cX4_firstAbove 29 = .ok (.goto 4, 3) := by decide +kernel
theorem dX4_firstAbove_32 : decode cX4_firstAbove 32 = .ok (.iload_n 2, 1) := by decide +kernel
theorem dX4_firstAbove_33 : decode cX4_firstAbove 33 = .ok (.istore_n 2, 1) := by decide +kernel
theorem dX4_firstAbove_34 : decode cX4_firstAbove 34 = .ok (.iinc 3 (-1), 3) := by decide +kernel
theorem dX4_firstAbove_37 : decode cX4_firstAbove 37 = .ok (.goto (-31), 3) := by decide +kernel
theorem dX4_firstAbove_40 : decode cX4_firstAbove 40 = .ok (.iload_n 2, 1) := by decide +kernel
theorem dX4_firstAbove_41 : decode cX4_firstAbove 41 = .ok (.ireturn, 1) := by decide +kernel
theorem dX4_freeBehind_0 : decode cX4_freeBehind 0 = .ok (.iload_n 1, 1) := by decide +kernel
theorem dX4_freeBehind_1 : decode cX4_freeBehind 1 = .ok (.iconst 1, 1) := by decide +kernel
theorem dX4_freeBehind_2 : decode cX4_freeBehind 2 = .ok (.iadd, 1) := by decide +kernel
theorem dX4_freeBehind_3 : decode cX4_freeBehind 3 = .ok (.istore_n 2, 1) := by decide +kernel
theorem dX4_freeBehind_4 : decode cX4_freeBehind 4 = .ok (.iload_n 2, 1) := by decide +kernel
theorem dX4_freeBehind_5 : decode cX4_freeBehind 5 = .ok (.bipush 32, 2) := by decide +kernel
theorem dX4_freeBehind_7 : decode cX4_freeBehind 7 = .ok (.if_icmp .ge 17, 3) := by decide +kernel
theorem dX4_freeBehind_10 : decode cX4_freeBehind 10 = .ok (.aload_n 0, 1) := by decide +kernel
theorem dX4_freeBehind_11 : decode cX4_freeBehind 11 = .ok (.iload_n 2, 1) := by decide +kernel
theorem dX4_freeBehind_12 : decode cX4_freeBehind 12 = .ok (.invokevirtual 51, 3) := by decide +kernel
theorem dX4_freeBehind_15 : decode cX4_freeBehind 15 = .ok (.ifCond .ne 9, 3) := by decide +kernel
theorem dX4_freeBehind_18 : decode cX4_freeBehind 18 = .ok (.iinc 2 1, 3) := by decide +kernel
theorem dX4_freeBehind_21 : decode cX4_freeBehind 21 = .ok (.goto (-17), 3) := by decide +kernel
theorem dX4_freeBehind_24 : decode cX4_freeBehind 24 = .ok (.iload_n 2, 1) := by decide +kernel
theorem dX4_freeBehind_25 : decode cX4_freeBehind 25 = .ok (.ireturn, 1) := by decide +kernel
theorem dX4_freeAhead_0 : decode cX4_freeAhead 0 = .ok (.iload_n 1, 1) := by decide +kernel
theorem dX4_freeAhead_1 : decode cX4_freeAhead 1 = .ok (.iconst 1, 1) := by decide +kernel
theorem dX4_freeAhead_2 : decode cX4_freeAhead 2 = .ok (.isub, 1) := by decide +kernel
theorem dX4_freeAhead_3 : decode cX4_freeAhead 3 = .ok (.istore_n 2, 1) := by decide +kernel
theorem dX4_freeAhead_4 : decode cX4_freeAhead 4 = .ok (.iload_n 2, 1) := by decide +kernel
theorem dX4_freeAhead_5 : decode cX4_freeAhead 5 = .ok (.ifCond .lt 17, 3) := by decide +kernel
theorem dX4_freeAhead_8 : decode cX4_freeAhead 8 = .ok (.aload_n 0, 1) := by decide +kernel
theorem dX4_freeAhead_9 : decode cX4_freeAhead 9 = .ok (.iload_n 2, 1) := by decide +kernel
theorem dX4_freeAhead_10 : decode cX4_freeAhead 10 = .ok (.invokevirtual 51, 3) := by decide +kernel
theorem dX4_freeAhead_13 : decode cX4_freeAhead 13 = .ok (.ifCond .ne 9, 3) := by decide +kernel
theorem dX4_freeAhead_16 : decode cX4_freeAhead 16 = .ok (.iinc 2 (-1), 3) := by decide +kernel
theorem dX4_freeAhead_19 : decode cX4_freeAhead 19 = .ok (.goto (-15), 3) := by decide +kernel
theorem dX4_freeAhead_22 : decode cX4_freeAhead 22 = .ok (.iload_n 2, 1) := by decide +kernel
theorem dX4_freeAhead_23 : decode cX4_freeAhead 23 = .ok (.ireturn, 1) := by decide +kernel
theorem dX4_copyEntry_0 : decode cX4_copyEntry 0 = .ok (.iconst 0, 1) := by decide +kernel
theorem dX4_copyEntry_1 : decode cX4_copyEntry 1 = .ok (.istore_n 3, 1) := by decide +kernel
theorem dX4_copyEntry_2 : decode cX4_copyEntry 2 = .ok (.iload_n 3, 1) := by decide +kernel
theorem dX4_copyEntry_3 : decode cX4_copyEntry 3 = .ok (.bipush 7, 2) := by decide +kernel
theorem dX4_copyEntry_5 : decode cX4_copyEntry 5 = .ok (.if_icmp .ge 31, 3) := by decide +kernel
theorem dX4_copyEntry_8 : decode cX4_copyEntry 8 = .ok (.aload_n 0, 1) := by decide +kernel
theorem dX4_copyEntry_9 : decode cX4_copyEntry 9 = .ok (.getfield 7, 3) := by decide +kernel
theorem dX4_copyEntry_12 : decode cX4_copyEntry 12 = .ok (.bipush 7, 2) := by decide +kernel
theorem dX4_copyEntry_14 : decode cX4_copyEntry 14 = .ok (.iload_n 2, 1) := by decide +kernel
theorem dX4_copyEntry_15 : decode cX4_copyEntry 15 = .ok (.imul, 1) := by decide +kernel
theorem dX4_copyEntry_16 : decode cX4_copyEntry 16 = .ok (.iload_n 3, 1) := by decide +kernel
theorem dX4_copyEntry_17 : decode cX4_copyEntry 17 = .ok (.iadd, 1) := by decide +kernel
theorem dX4_copyEntry_18 : decode cX4_copyEntry 18 = .ok (.aload_n 0, 1) := by decide +kernel
theorem dX4_copyEntry_19 : decode cX4_copyEntry 19 = .ok (.getfield 7, 3) := by decide +kernel
theorem dX4_copyEntry_22 : decode cX4_copyEntry 22 = .ok (.bipush 7, 2) := by decide +kernel
theorem dX4_copyEntry_24 : decode cX4_copyEntry 24 = .ok (.iload_n 1, 1) := by decide +kernel
theorem dX4_copyEntry_25 : decode cX4_copyEntry 25 = .ok (.imul, 1) := by decide +kernel
theorem dX4_copyEntry_26 : decode cX4_copyEntry 26 = .ok (.iload_n 3, 1) := by decide +kernel
theorem dX4_copyEntry_27 : decode cX4_copyEntry 27 = .ok (.iadd, 1) := by decide +kernel
theorem dX4_copyEntry_28 : decode cX4_copyEntry 28 = .ok (.iaload, 1) := by decide +kernel
theorem dX4_copyEntry_29 : decode cX4_copyEntry 29 = .ok (.iastore, 1) := by decide +kernel
theorem dX4_copyEntry_30 : decode cX4_copyEntry 30 = .ok (.iinc 3 1, 3) := by decide +kernel
theorem dX4_copyEntry_33 : decode cX4_copyEntry 33 = .ok (.goto (-31), 3) := by decide +kernel
theorem dX4_copyEntry_36 : decode cX4_copyEntry 36 = .ok (.return_, 1) := by decide +kernel
theorem dX4_moves_0 : decode cX4_moves 0 = .ok (.aload_n 0, 1) := by decide +kernel
theorem dX4_moves_1 : decode cX4_moves 1 = .ok (.iload_n 1, 1) := by decide +kernel
theorem dX4_moves_2 : decode cX4_moves 2 = .ok (.invokevirtual 59, 3) := by decide +kernel
theorem dX4_moves_5 : decode cX4_moves 5 = .ok (.istore_n 2, 1) := by decide +kernel
theorem dX4_moves_6 : decode cX4_moves 6 = .ok (.aload_n 0, 1) := by decide +kernel
theorem dX4_moves_7 : decode cX4_moves 7 = .ok (.iload_n 1, 1) := by decide +kernel
theorem dX4_moves_8 : decode cX4_moves 8 = .ok (.invokevirtual 63, 3) := by decide +kernel
theorem dX4_moves_11 : decode cX4_moves 11 = .ok (.istore_n 3, 1) := by decide +kernel
theorem dX4_moves_12 : decode cX4_moves 12 = .ok (.aload_n 0, 1) := by decide +kernel
theorem dX4_moves_13 : decode cX4_moves 13 = .ok (.iload_n 2, 1) := by decide +kernel
theorem dX4_moves_14 : decode cX4_moves 14 = .ok (.invokevirtual 66, 3) := by decide +kernel
theorem dX4_moves_17 : decode cX4_moves 17 = .ok (.istore 4, 2) := by decide +kernel
theorem dX4_moves_19 : decode cX4_moves 19 = .ok (.aload_n 0, 1) := by decide +kernel
theorem dX4_moves_20 : decode cX4_moves 20 = .ok (.iload_n 3, 1) := by decide +kernel
theorem dX4_moves_21 : decode cX4_moves 21 = .ok (.invokevirtual 69, 3) := by decide +kernel
theorem dX4_moves_24 : decode cX4_moves 24 = .ok (.istore 5, 2) := by decide +kernel
theorem dX4_moves_26 : decode cX4_moves 26 = .ok (.iload_n 3, 1) := by decide +kernel
theorem dX4_moves_27 : decode cX4_moves 27 = .ok (.iload_n 2, 1) := by decide +kernel
theorem dX4_moves_28 : decode cX4_moves 28 = .ok (.isub, 1) := by decide +kernel
theorem dX4_moves_29 : decode cX4_moves 29 = .ok (.iconst 1, 1) := by decide +kernel
theorem dX4_moves_30 : decode cX4_moves 30 = .ok (.if_icmp .le 5, 3) := by decide +kernel
theorem dX4_moves_33 : decode cX4_moves 33 = .ok (.iconst 0, 1) := by decide +kernel
theorem dX4_moves_34 : decode cX4_moves 34 = .ok (.ireturn, 1) := by decide +kernel
theorem dX4_moves_35 : decode cX4_moves 35 = .ok (.iload 5, 2) := by decide +kernel
theorem dX4_moves_37 : decode cX4_moves 37 = .ok (.ifCond .lt 21, 3) := by decide +kernel
theorem dX4_moves_40 : decode cX4_moves 40 = .ok (.iload 4, 2) := by decide +kernel
theorem dX4_moves_42 : decode cX4_moves 42 = .ok (.bipush 32, 2) := by decide +kernel
theorem dX4_moves_44 : decode cX4_moves 44 = .ok (.if_icmp .ge 21, 3) := by decide +kernel
theorem dX4_moves_47 : decode cX4_moves 47 = .ok (.iload 4, 2) := by decide +kernel
theorem dX4_moves_49 : decode cX4_moves 49 = .ok (.iload_n 3, 1) := by decide +kernel
theorem dX4_moves_50 : decode cX4_moves 50 = .ok (.isub, 1) := by decide +kernel
theorem dX4_moves_51 : decode cX4_moves 51 = .ok (.iload_n 2, 1) := by decide +kernel
theorem dX4_moves_52 : decode cX4_moves 52 = .ok (.iload 5, 2) := by decide +kernel
theorem dX4_moves_54 : decode cX4_moves 54 = .ok (.isub, 1) := by decide +kernel
theorem dX4_moves_55 : decode cX4_moves 55 = .ok (.if_icmp .gt 10, 3) := by decide +kernel
theorem dX4_moves_58 : decode cX4_moves 58 = .ok (.iload 4, 2) := by decide +kernel
theorem dX4_moves_60 : decode cX4_moves 60 = .ok (.iload_n 3, 1) := by decide +kernel
theorem dX4_moves_61 : decode cX4_moves 61 = .ok (.isub, 1) := by decide +kernel
theorem dX4_moves_62 : decode cX4_moves 62 = .ok (.goto 9, 3) := by decide +kernel
theorem dX4_moves_65 : decode cX4_moves 65 = .ok (.iconst (-1), 1) := by decide +kernel
theorem dX4_moves_66 : decode cX4_moves 66 = .ok (.iload_n 2, 1) := by decide +kernel
theorem dX4_moves_67 : decode cX4_moves 67 = .ok (.iload 5, 2) := by decide +kernel
theorem dX4_moves_69 : decode cX4_moves 69 = .ok (.isub, 1) := by decide +kernel
theorem dX4_moves_70 : decode cX4_moves 70 = .ok (.isub, 1) := by decide +kernel
theorem dX4_moves_71 : decode cX4_moves 71 = .ok (.ireturn, 1) := by decide +kernel
theorem dX4_makeRoom_0 : decode cX4_makeRoom 0 = .ok (.aload_n 0, 1) := by decide +kernel
theorem dX4_makeRoom_1 : decode cX4_makeRoom 1 = .ok (.iload_n 1, 1) := by decide +kernel
theorem dX4_makeRoom_2 : decode cX4_makeRoom 2 = .ok (.invokevirtual 59, 3) := by decide +kernel
theorem dX4_makeRoom_5 : decode cX4_makeRoom 5 = .ok (.istore_n 2, 1) := by decide +kernel
theorem dX4_makeRoom_6 : decode cX4_makeRoom 6 = .ok (.aload_n 0, 1) := by decide +kernel
theorem dX4_makeRoom_7 : decode cX4_makeRoom 7 = .ok (.iload_n 1, 1) := by decide +kernel
theorem dX4_makeRoom_8 : decode cX4_makeRoom 8 = .ok (.invokevirtual 63, 3) := by decide +kernel
theorem dX4_makeRoom_11 : decode cX4_makeRoom 11 = .ok (.istore_n 3, 1) := by decide +kernel
theorem dX4_makeRoom_12 : decode cX4_makeRoom 12 = .ok (.aload_n 0, 1) := by decide +kernel
theorem dX4_makeRoom_13 : decode cX4_makeRoom 13 = .ok (.iload_n 1, 1) := by decide +kernel
theorem dX4_makeRoom_14 : decode cX4_makeRoom 14 = .ok (.invokevirtual 72, 3) := by decide +kernel
theorem dX4_makeRoom_17 : decode cX4_makeRoom 17 = .ok (.istore 4, 2) := by decide +kernel
theorem dX4_makeRoom_19 : decode cX4_makeRoom 19 = .ok (.iload_n 3, 1) := by decide +kernel
theorem dX4_makeRoom_20 : decode cX4_makeRoom 20 = .ok (.iload_n 2, 1) := by decide +kernel
theorem dX4_makeRoom_21 : decode cX4_makeRoom 21 = .ok (.isub, 1) := by decide +kernel
theorem dX4_makeRoom_22 : decode cX4_makeRoom 22 = .ok (.iconst 1, 1) := by decide +kernel
theorem dX4_makeRoom_23 : decode cX4_makeRoom 23 = .ok (.if_icmp .le 44, 3) := by decide +kernel
theorem dX4_makeRoom_26 : decode cX4_makeRoom 26 = .ok (.aload_n 0, 1) := by decide +kernel
theorem dX4_makeRoom_27 : decode cX4_makeRoom 27 = .ok (.getfield 7, 3) := by decide +kernel
theorem dX4_makeRoom_30 : decode cX4_makeRoom 30 = .ok (.sipush 224, 3) := by decide +kernel
theorem dX4_makeRoom_33 : decode cX4_makeRoom 33 = .ok (.iaload, 1) := by decide +kernel
theorem dX4_makeRoom_34 : decode cX4_makeRoom 34 = .ok (.ifCond .ne 9, 3) := by decide +kernel
theorem dX4_makeRoom_37 : decode cX4_makeRoom 37 = .ok (.iload_n 2, 1) := by decide +kernel
theorem dX4_makeRoom_38 : decode cX4_makeRoom 38 = .ok (.iconst 1, 1) := by decide +kernel
theorem dX4_makeRoom_39 : decode cX4_makeRoom 39 = .ok (.iadd, 1) := by decide +kernel
theorem dX4_makeRoom_40 : decode cX4_makeRoom 40 = .ok (.goto 26, 3) := by decide +kernel
theorem dX4_makeRoom_43 : decode cX4_makeRoom 43 = .ok (.aload_n 0, 1) := by decide +kernel
theorem dX4_makeRoom_44 : decode cX4_makeRoom 44 = .ok (.getfield 7, 3) := by decide +kernel
theorem dX4_makeRoom_47 : decode cX4_makeRoom 47 = .ok (.sipush 224, 3) := by decide +kernel
theorem dX4_makeRoom_50 : decode cX4_makeRoom 50 = .ok (.iaload, 1) := by decide +kernel
theorem dX4_makeRoom_51 : decode cX4_makeRoom 51 = .ok (.iconst 1, 1) := by decide +kernel
theorem dX4_makeRoom_52 : decode cX4_makeRoom 52 = .ok (.if_icmp .ne 11, 3) := by decide +kernel
theorem dX4_makeRoom_55 : decode cX4_makeRoom 55 = .ok (.iload_n 2, 1) := by decide +kernel
theorem dX4_makeRoom_56 : decode cX4_makeRoom 56 = .ok (.iload_n 3, 1) := by decide +kernel
theorem dX4_makeRoom_57 : decode cX4_makeRoom 57 = .ok (.iadd, 1) := by decide +kernel
theorem dX4_makeRoom_58 : decode cX4_makeRoom 58 = .ok (.iconst 2, 1) := by decide +kernel
theorem dX4_makeRoom_59 : decode cX4_makeRoom 59 = .ok (.idiv, 1) := by decide +kernel
theorem dX4_makeRoom_60 : decode cX4_makeRoom 60 = .ok (.goto 6, 3) := by decide +kernel
theorem dX4_makeRoom_63 : decode cX4_makeRoom 63 = .ok (.iload_n 3, 1) := by decide +kernel
theorem dX4_makeRoom_64 : decode cX4_makeRoom 64 = .ok (.iconst 1, 1) := by decide +kernel
theorem dX4_makeRoom_65 : decode cX4_makeRoom 65 = .ok (.isub, 1) := by decide +kernel
theorem dX4_makeRoom_66 : decode cX4_makeRoom 66 = .ok (.ireturn, 1) := by decide +kernel
theorem dX4_makeRoom_67 : decode cX4_makeRoom 67 = .ok (.iload 4, 2) := by decide +kernel
theorem dX4_makeRoom_69 : decode cX4_makeRoom 69 = .ok (.ifCond .lt 46, 3) := by decide +kernel
theorem dX4_makeRoom_72 : decode cX4_makeRoom 72 = .ok (.iload_n 3, 1) := by decide +kernel
theorem dX4_makeRoom_73 : decode cX4_makeRoom 73 = .ok (.iload 4, 2) := by decide +kernel
theorem dX4_makeRoom_75 : decode cX4_makeRoom 75 = .ok (.iadd, 1) := by decide +kernel
theorem dX4_makeRoom_76 : decode cX4_makeRoom 76 = .ok (.istore 5, 2) := by decide +kernel
theorem dX4_makeRoom_78 : decode cX4_makeRoom 78 = .ok (.iload 5, 2) := by decide +kernel
theorem dX4_makeRoom_80 : decode cX4_makeRoom 80 = .ok (.iload_n 3, 1) := by decide +kernel
theorem dX4_makeRoom_81 : decode cX4_makeRoom 81 = .ok (.if_icmp .le 19, 3) := by decide +kernel
theorem dX4_makeRoom_84 : decode cX4_makeRoom 84 = .ok (.aload_n 0, 1) := by decide +kernel
theorem dX4_makeRoom_85 : decode cX4_makeRoom 85 = .ok (.iload 5, 2) := by decide +kernel
theorem dX4_makeRoom_87 : decode cX4_makeRoom 87 = .ok (.iconst 1, 1) := by decide +kernel
theorem dX4_makeRoom_88 : decode cX4_makeRoom 88 = .ok (.isub, 1) := by decide +kernel
theorem dX4_makeRoom_89 : decode cX4_makeRoom 89 = .ok (.iload 5, 2) := by decide +kernel
theorem dX4_makeRoom_91 : decode cX4_makeRoom 91 = .ok (.invokevirtual 75, 3) := by decide +kernel
theorem dX4_makeRoom_94 : decode cX4_makeRoom 94 = .ok (.iinc 5 (-1), 3) := by decide +kernel
theorem dX4_makeRoom_97 : decode cX4_makeRoom 97 = .ok (.goto (-19), 3) := by decide +kernel
theorem dX4_makeRoom_100 : decode cX4_makeRoom 100 = .ok (.aload_n 0, 1) := by decide +kernel
theorem dX4_makeRoom_101 : decode cX4_makeRoom 101 = .ok (.getfield 7, 3) := by decide +kernel
theorem dX4_makeRoom_104 : decode cX4_makeRoom 104 = .ok (.sipush 226, 3) := by decide +kernel
theorem dX4_makeRoom_107 : decode cX4_makeRoom 107 = .ok (.dup2, 1) := by decide +kernel
theorem dX4_makeRoom_108 : decode cX4_makeRoom 108 = .ok (.iaload, 1) := by decide +kernel
theorem dX4_makeRoom_109 : decode cX4_makeRoom 109 = .ok (.iload 4, 2) := by decide +kernel
theorem dX4_makeRoom_111 : decode cX4_makeRoom 111 = .ok (.iadd, 1) := by decide +kernel
theorem dX4_makeRoom_112 : decode cX4_makeRoom 112 = .ok (.iastore, 1) := by decide +kernel
theorem dX4_makeRoom_113 : decode cX4_makeRoom 113 = .ok (.iload_n 3, 1) := by decide +kernel
theorem dX4_makeRoom_114 : decode cX4_makeRoom 114 = .ok (.ireturn, 1) := by decide +kernel
theorem dX4_makeRoom_115 : decode cX4_makeRoom 115 = .ok (.iload_n 2, 1) := by decide +kernel
theorem dX4_makeRoom_116 : decode cX4_makeRoom 116 = .ok (.iconst 1, 1) := by decide +kernel
theorem dX4_makeRoom_117 : decode cX4_makeRoom 117 = .ok (.iadd, 1) := by decide +kernel
theorem dX4_makeRoom_118 : decode cX4_makeRoom 118 = .ok (.iload 4, 2) := by decide +kernel
theorem dX4_makeRoom_120 : decode cX4_makeRoom 120 = .ok (.iadd, 1) := by decide +kernel
theorem dX4_makeRoom_121 : decode cX4_makeRoom 121 = .ok (.istore 5, 2) := by decide +kernel
theorem dX4_makeRoom_123 : decode cX4_makeRoom 123 = .ok (.iload 5, 2) := by decide +kernel
theorem dX4_makeRoom_125 : decode cX4_makeRoom 125 = .ok (.iload_n 2, 1) := by decide +kernel
theorem dX4_makeRoom_126 : decode cX4_makeRoom 126 = .ok (.if_icmp .ge 19, 3) := by decide +kernel
theorem dX4_makeRoom_129 : decode cX4_makeRoom 129 = .ok (.aload_n 0, 1) := by decide +kernel
theorem dX4_makeRoom_130 : decode cX4_makeRoom 130 = .ok (.iload 5, 2) := by decide +kernel
theorem dX4_makeRoom_132 : decode cX4_makeRoom 132 = .ok (.iconst 1, 1) := by decide +kernel
theorem dX4_makeRoom_133 : decode cX4_makeRoom 133 = .ok (.iadd, 1) := by decide +kernel
theorem dX4_makeRoom_134 : decode cX4_makeRoom 134 = .ok (.iload 5, 2) := by decide +kernel
theorem dX4_makeRoom_136 : decode cX4_makeRoom 136 = .ok (.invokevirtual 75, 3) := by decide +kernel
theorem dX4_makeRoom_139 : decode cX4_makeRoom 139 = .ok (.iinc 5 1, 3) := by decide +kernel
theorem dX4_makeRoom_142 : decode cX4_makeRoom 142 = .ok (.goto (-19), 3) := by decide +kernel
theorem dX4_makeRoom_145 : decode cX4_makeRoom 145 = .ok (.aload_n 0, 1) := by decide +kernel
theorem dX4_makeRoom_146 : decode cX4_makeRoom 146 = .ok (.getfield 7, 3) := by decide +kernel
theorem dX4_makeRoom_149 : decode cX4_makeRoom 149 = .ok (.sipush 226, 3) := by decide +kernel
theorem dX4_makeRoom_152 : decode cX4_makeRoom 152 = .ok (.dup2, 1) := by decide +kernel
theorem dX4_makeRoom_153 : decode cX4_makeRoom 153 = .ok (.iaload, 1) := by decide +kernel
theorem dX4_makeRoom_154 : decode cX4_makeRoom 154 = .ok (.iconst (-1), 1) := by decide +kernel
theorem dX4_makeRoom_155 : decode cX4_makeRoom 155 = .ok (.iload 4, 2) := by decide +kernel
theorem dX4_makeRoom_157 : decode cX4_makeRoom 157 = .ok (.isub, 1) := by decide +kernel
theorem dX4_makeRoom_158 : decode cX4_makeRoom 158 = .ok (.iadd, 1) := by decide +kernel
theorem dX4_makeRoom_159 : decode cX4_makeRoom 159 = .ok (.iastore, 1) := by decide +kernel
theorem dX4_makeRoom_160 : decode cX4_makeRoom 160 = .ok (.iload_n 2, 1) := by decide +kernel
theorem dX4_makeRoom_161 : decode cX4_makeRoom 161 = .ok (.ireturn, 1) := by decide +kernel
theorem dX4_put_0 : decode cX4_put 0 = .ok (.bipush 7, 2) := by decide +kernel
theorem dX4_put_2 : decode cX4_put 2 = .ok (.iload_n 1, 1) := by decide +kernel
theorem dX4_put_3 : decode cX4_put 3 = .ok (.imul, 1) := by decide +kernel
theorem dX4_put_4 : decode cX4_put 4 = .ok (.istore 8, 2) := by decide +kernel
theorem dX4_put_6 : decode cX4_put 6 = .ok (.aload_n 0, 1) := by decide +kernel
theorem dX4_put_7 : decode cX4_put 7 = .ok (.getfield 7, 3) := by decide +kernel
theorem dX4_put_10 : decode cX4_put 10 = .ok (.iload 8, 2) := by decide +kernel
theorem dX4_put_12 : decode cX4_put 12 = .ok (.iconst 0, 1) := by decide +kernel
theorem dX4_put_13 : decode cX4_put 13 = .ok (.iadd, 1) := by decide +kernel
theorem dX4_put_14 : decode cX4_put 14 = .ok (.iload_n 2, 1) := by decide +kernel
theorem dX4_put_15 : decode cX4_put 15 = .ok (.iconst 1, 1) := by decide +kernel
theorem dX4_put_16 : decode cX4_put 16 = .ok (.iadd, 1) := by decide +kernel
theorem dX4_put_17 : decode cX4_put 17 = .ok (.iastore, 1) := by decide +kernel
theorem dX4_put_18 : decode cX4_put 18 = .ok (.aload_n 0, 1) := by decide +kernel
theorem dX4_put_19 : decode cX4_put 19 = .ok (.getfield 7, 3) := by decide +kernel
theorem dX4_put_22 : decode cX4_put 22 = .ok (.iload 8, 2) := by decide +kernel
theorem dX4_put_24 : decode cX4_put 24 = .ok (.iconst 1, 1) := by decide +kernel
theorem dX4_put_25 : decode cX4_put 25 = .ok (.iadd, 1) := by decide +kernel
theorem dX4_put_26 : decode cX4_put 26 = .ok (.iload_n 3, 1) := by decide +kernel
theorem dX4_put_27 : decode cX4_put 27 = .ok (.iastore, 1) := by decide +kernel
theorem dX4_put_28 : decode cX4_put 28 = .ok (.aload_n 0, 1) := by decide +kernel
theorem dX4_put_29 : decode cX4_put 29 = .ok (.getfield 7, 3) := by decide +kernel
theorem dX4_put_32 : decode cX4_put 32 = .ok (.iload 8, 2) := by decide +kernel
theorem dX4_put_34 : decode cX4_put 34 = .ok (.iconst 2, 1) := by decide +kernel
theorem dX4_put_35 : decode cX4_put 35 = .ok (.iadd, 1) := by decide +kernel
theorem dX4_put_36 : decode cX4_put 36 = .ok (.iload 4, 2) := by decide +kernel
theorem dX4_put_38 : decode cX4_put 38 = .ok (.iastore, 1) := by decide +kernel
theorem dX4_put_39 : decode cX4_put 39 = .ok (.aload_n 0, 1) := by decide +kernel
theorem dX4_put_40 : decode cX4_put 40 = .ok (.getfield 7, 3) := by decide +kernel
theorem dX4_put_43 : decode cX4_put 43 = .ok (.iload 8, 2) := by decide +kernel
theorem dX4_put_45 : decode cX4_put 45 = .ok (.iconst 3, 1) := by decide +kernel
theorem dX4_put_46 : decode cX4_put 46 = .ok (.iadd, 1) := by decide +kernel
theorem dX4_put_47 : decode cX4_put 47 = .ok (.iload 5, 2) := by decide +kernel
theorem dX4_put_49 : decode cX4_put 49 = .ok (.iastore, 1) := by decide +kernel
theorem dX4_put_50 : decode cX4_put 50 = .ok (.aload_n 0, 1) := by decide +kernel
theorem dX4_put_51 : decode cX4_put 51 = .ok (.getfield 7, 3) := by decide +kernel
theorem dX4_put_54 : decode cX4_put 54 = .ok (.iload 8, 2) := by decide +kernel
theorem dX4_put_56 : decode cX4_put 56 = .ok (.iconst 4, 1) := by decide +kernel
theorem dX4_put_57 : decode cX4_put 57 = .ok (.iadd, 1) := by decide +kernel
theorem dX4_put_58 : decode cX4_put 58 = .ok (.iload 6, 2) := by decide +kernel
theorem dX4_put_60 : decode cX4_put 60 = .ok (.iastore, 1) := by decide +kernel
theorem dX4_put_61 : decode cX4_put 61 = .ok (.aload_n 0, 1) := by decide +kernel
theorem dX4_put_62 : decode cX4_put 62 = .ok (.getfield 7, 3) := by decide +kernel
theorem dX4_put_65 : decode cX4_put 65 = .ok (.iload 8, 2) := by decide +kernel
theorem dX4_put_67 : decode cX4_put 67 = .ok (.iconst 5, 1) := by decide +kernel
theorem dX4_put_68 : decode cX4_put 68 = .ok (.iadd, 1) := by decide +kernel
theorem dX4_put_69 : decode cX4_put 69 = .ok (.iload 7, 2) := by decide +kernel
theorem dX4_put_71 : decode cX4_put 71 = .ok (.iastore, 1) := by decide +kernel
theorem dX4_put_72 : decode cX4_put 72 = .ok (.aload_n 0, 1) := by decide +kernel
theorem dX4_put_73 : decode cX4_put 73 = .ok (.getfield 7, 3) := by decide +kernel
theorem dX4_put_76 : decode cX4_put 76 = .ok (.iload 8, 2) := by decide +kernel
theorem dX4_put_78 : decode cX4_put 78 = .ok (.bipush 6, 2) := by decide +kernel
theorem dX4_put_80 : decode cX4_put 80 = .ok (.iadd, 1) := by decide +kernel
theorem dX4_put_81 : decode cX4_put 81 = .ok (.iconst 0, 1) := by decide +kernel
theorem dX4_put_82 : decode cX4_put 82 = .ok (.iastore, 1) := by decide +kernel
theorem dX4_put_83 : decode cX4_put 83 = .ok (.return_, 1) := by decide +kernel
theorem dX4_clearSlot_0 : decode cX4_clearSlot 0 = .ok (.iconst 0, 1) := by decide +kernel
theorem dX4_clearSlot_1 : decode cX4_clearSlot 1 = .ok (.istore_n 2, 1) := by decide +kernel
theorem dX4_clearSlot_2 : decode cX4_clearSlot 2 = .ok (.iload_n 2, 1) := by decide +kernel
theorem dX4_clearSlot_3 : decode cX4_clearSlot 3 = .ok (.bipush 7, 2) := by decide +kernel
theorem dX4_clearSlot_5 : decode cX4_clearSlot 5 = .ok (.if_icmp .ge 21, 3) := by decide +kernel
theorem dX4_clearSlot_8 : decode cX4_clearSlot 8 = .ok (.aload_n 0, 1) := by decide +kernel
theorem dX4_clearSlot_9 : decode cX4_clearSlot 9 = .ok (.getfield 7, 3) := by decide +kernel
theorem dX4_clearSlot_12 : decode cX4_clearSlot 12 = .ok (.bipush 7, 2) := by decide +kernel
theorem dX4_clearSlot_14 : decode cX4_clearSlot 14 = .ok (.iload_n 1, 1) := by decide +kernel
theorem dX4_clearSlot_15 : decode cX4_clearSlot 15 = .ok (.imul, 1) := by decide +kernel
theorem dX4_clearSlot_16 : decode cX4_clearSlot 16 = .ok (.iload_n 2, 1) := by decide +kernel
theorem dX4_clearSlot_17 : decode cX4_clearSlot 17 = .ok (.iadd, 1) := by decide +kernel
theorem dX4_clearSlot_18 : decode cX4_clearSlot 18 = .ok (.iconst 0, 1) := by decide +kernel
theorem dX4_clearSlot_19 : decode cX4_clearSlot 19 = .ok (.iastore, 1) := by decide +kernel
theorem dX4_clearSlot_20 : decode cX4_clearSlot 20 = .ok (.iinc 2 1, 3) := by decide +kernel
theorem dX4_clearSlot_23 : decode cX4_clearSlot 23 = .ok (.goto (-21), 3) := by decide +kernel
theorem dX4_clearSlot_26 : decode cX4_clearSlot 26 = .ok (.return_, 1) := by decide +kernel
theorem dX4_isByte_0 : decode cX4_isByte 0 = .ok (.iload_n 0, 1) := by decide +kernel
theorem dX4_isByte_1 : decode cX4_isByte 1 = .ok (.iconst 0, 1) := by decide +kernel
theorem dX4_isByte_2 : decode cX4_isByte 2 = .ok (.sipush 255, 3) := by decide +kernel
theorem dX4_isByte_5 : decode cX4_isByte 5 = .ok (.invokestatic 28, 3) := by decide +kernel
theorem dX4_isByte_8 : decode cX4_isByte 8 = .ok (.ireturn, 1) := by decide +kernel
theorem dX4_isRankAndAction_0 : decode cX4_isRankAndAction 0 = .ok (.iload_n 0, 1) := by decide +kernel
theorem dX4_isRankAndAction_1 : decode cX4_isRankAndAction 1 = .ok (.iconst 0, 1) := by decide +kernel
theorem dX4_isRankAndAction_2 : decode cX4_isRankAndAction 2 = .ok (.bipush 99, 2) := by decide +kernel
theorem dX4_isRankAndAction_4 : decode cX4_isRankAndAction 4 = .ok (.invokestatic 28, 3) := by decide +kernel
theorem dX4_isRankAndAction_7 : decode cX4_isRankAndAction 7 = .ok (.ifCond .eq 17, 3) := by decide +kernel
theorem dX4_isRankAndAction_10 : decode cX4_isRankAndAction 10 = .ok (.iload_n 1, 1) := by decide +kernel
theorem dX4_isRankAndAction_11 : decode cX4_isRankAndAction 11 = .ok (.iconst 0, 1) := by decide +kernel
theorem dX4_isRankAndAction_12 : decode cX4_isRankAndAction 12 = .ok (.bipush 9, 2) := by decide +kernel
theorem dX4_isRankAndAction_14 : decode cX4_isRankAndAction 14 = .ok (.invokestatic 28, 3) := by decide +kernel
theorem dX4_isRankAndAction_17 : decode cX4_isRankAndAction 17 = .ok (.ifCond .eq 7, 3) := by decide +kernel
theorem dX4_isRankAndAction_20 : decode cX4_isRankAndAction 20 = .ok (.iconst 1, 1) := by decide +kernel
theorem dX4_isRankAndAction_21 : decode cX4_isRankAndAction 21 = .ok (.goto 4, 3) := by decide +kernel
theorem dX4_isRankAndAction_24 : decode cX4_isRankAndAction 24 = .ok (.iconst 0, 1) := by decide +kernel
theorem dX4_isRankAndAction_25 : decode cX4_isRankAndAction 25 = .ok (.ireturn, 1) := by decide +kernel
theorem dX4_isRange_0 : decode cX4_isRange 0 = .ok (.iload_n 0, 1) := by decide +kernel
theorem dX4_isRange_1 : decode cX4_isRange 1 = .ok (.invokestatic 79, 3) := by decide +kernel
theorem dX4_isRange_4 : decode cX4_isRange 4 = .ok (.ifCond .eq 19, 3) := by decide +kernel
theorem dX4_isRange_7 : decode cX4_isRange 7 = .ok (.iload_n 1, 1) := by decide +kernel
theorem dX4_isRange_8 : decode cX4_isRange 8 = .ok (.invokestatic 79, 3) := by decide +kernel
theorem dX4_isRange_11 : decode cX4_isRange 11 = .ok (.ifCond .eq 12, 3) := by decide +kernel
theorem dX4_isRange_14 : decode cX4_isRange 14 = .ok (.iload_n 0, 1) := by decide +kernel
theorem dX4_isRange_15 : decode cX4_isRange 15 = .ok (.iload_n 1, 1) := by decide +kernel
theorem dX4_isRange_16 : decode cX4_isRange 16 = .ok (.if_icmp .gt 7, 3) := by decide +kernel
theorem dX4_isRange_19 : decode cX4_isRange 19 = .ok (.iconst 1, 1) := by decide +kernel
theorem dX4_isRange_20 : decode cX4_isRange 20 = .ok (.goto 4, 3) := by decide +kernel
theorem dX4_isRange_23 : decode cX4_isRange 23 = .ok (.iconst 0, 1) := by decide +kernel
theorem dX4_isRange_24 : decode cX4_isRange 24 = .ok (.ireturn, 1) := by decide +kernel
theorem dX4_add_0 : decode cX4_add 0 = .ok (.aload_n 0, 1) := by decide +kernel
theorem dX4_add_1 : decode cX4_add 1 = .ok (.getfield 7, 3) := by decide +kernel
theorem dX4_add_4 : decode cX4_add 4 = .ok (.sipush 225, 3) := by decide +kernel
theorem dX4_add_7 : decode cX4_add 7 = .ok (.iaload, 1) := by decide +kernel
theorem dX4_add_8 : decode cX4_add 8 = .ok (.istore 5, 2) := by decide +kernel
theorem dX4_add_10 : decode cX4_add 10 = .ok (.aload_n 0, 1) := by decide +kernel
theorem dX4_add_11 : decode cX4_add 11 = .ok (.aload_n 0, 1) := by decide +kernel
theorem dX4_add_12 : decode cX4_add 12 = .ok (.iload_n 3, 1) := by decide +kernel
theorem dX4_add_13 : decode cX4_add 13 = .ok (.invokevirtual 82, 3) := by decide +kernel
theorem dX4_add_16 : decode cX4_add 16 = .ok (.iload 5, 2) := by decide +kernel
theorem dX4_add_18 : decode cX4_add 18 = .ok (.iconst 0, 1) := by decide +kernel
theorem dX4_add_19 : decode cX4_add 19 = .ok (.iload_n 2, 1) := by decide +kernel
theorem dX4_add_20 : decode cX4_add 20 = .ok (.iload_n 1, 1) := by decide +kernel
theorem dX4_add_21 : decode cX4_add 21 = .ok (.iload_n 2, 1) := by decide +kernel
theorem dX4_add_22 : decode cX4_add 22 = .ok (.iand, 1) := by decide +kernel
theorem dX4_add_23 : decode cX4_add 23 = .ok (.iload_n 3, 1) := by decide +kernel
theorem dX4_add_24 : decode cX4_add 24 = .ok (.iload 4, 2) := by decide +kernel
theorem dX4_add_26 : decode cX4_add 26 = .ok (.invokevirtual 85, 3) := by decide +kernel
theorem dX4_add_29 : decode cX4_add 29 = .ok (.aload_n 0, 1) := by decide +kernel
theorem dX4_add_30 : decode cX4_add 30 = .ok (.getfield 7, 3) := by decide +kernel
theorem dX4_add_33 : decode cX4_add 33 = .ok (.sipush 225, 3) := by decide +kernel
theorem dX4_add_36 : decode cX4_add 36 = .ok (.dup2, 1) := by decide +kernel
theorem dX4_add_37 : decode cX4_add 37 = .ok (.iaload, 1) := by decide +kernel
theorem dX4_add_38 : decode cX4_add 38 = .ok (.iconst 1, 1) := by decide +kernel
theorem dX4_add_39 : decode cX4_add 39 = .ok (.iadd, 1) := by decide +kernel
theorem dX4_add_40 : decode cX4_add 40 = .ok (.iastore, 1) := by decide +kernel
theorem dX4_add_41 : decode cX4_add 41 = .ok (.iload 5, 2) := by decide +kernel
theorem dX4_add_43 : decode cX4_add 43 = .ok (.ireturn, 1) := by decide +kernel
theorem dX4_addRule_0 : decode cX4_addRule 0 = .ok (.iload_n 1, 1) := by decide +kernel
theorem dX4_addRule_1 : decode cX4_addRule 1 = .ok (.invokestatic 79, 3) := by decide +kernel
theorem dX4_addRule_4 : decode cX4_addRule 4 = .ok (.ifCond .eq 19, 3) := by decide +kernel
theorem dX4_addRule_7 : decode cX4_addRule 7 = .ok (.iload_n 2, 1) := by decide +kernel
theorem dX4_addRule_8 : decode cX4_addRule 8 = .ok (.invokestatic 79, 3) := by decide +kernel
theorem dX4_addRule_11 : decode cX4_addRule 11 = .ok (.ifCond .eq 12, 3) := by decide +kernel
theorem dX4_addRule_14 : decode cX4_addRule 14 = .ok (.iload_n 3, 1) := by decide +kernel
theorem dX4_addRule_15 : decode cX4_addRule 15 = .ok (.iload 4, 2) := by decide +kernel
theorem dX4_addRule_17 : decode cX4_addRule 17 = .ok (.invokestatic 89, 3) := by decide +kernel
theorem dX4_addRule_20 : decode cX4_addRule 20 = .ok (.ifCond .ne 6, 3) := by decide +kernel
theorem dX4_addRule_23 : decode cX4_addRule 23 = .ok (.bipush (-2), 2) := by decide +kernel
theorem dX4_addRule_25 : decode cX4_addRule 25 = .ok (.ireturn, 1) := by decide +kernel
theorem dX4_addRule_26 : decode cX4_addRule 26 = .ok (.aload_n 0, 1) := by decide +kernel
theorem dX4_addRule_27 : decode cX4_addRule 27 = .ok (.invokevirtual 93, 3) := by decide +kernel
theorem dX4_addRule_30 : decode cX4_addRule 30 = .ok (.ifCond .ne 6, 3) := by decide +kernel
theorem dX4_addRule_33 : decode cX4_addRule 33 = .ok (.bipush (-3), 2) := by decide +kernel
theorem dX4_addRule_35 : decode cX4_addRule 35 = .ok (.ireturn, 1) := by decide +kernel
theorem dX4_addRule_36 : decode cX4_addRule 36 = .ok (.aload_n 0, 1) := by decide +kernel
theorem dX4_addRule_37 : decode cX4_addRule 37 = .ok (.invokevirtual 48, 3) := by decide +kernel
theorem dX4_addRule_40 : decode cX4_addRule 40 = .ok (.aload_n 0, 1) := by decide +kernel
theorem dX4_addRule_41 : decode cX4_addRule 41 = .ok (.iload_n 1, 1) := by decide +kernel
theorem dX4_addRule_42 : decode cX4_addRule 42 = .ok (.iload_n 2, 1) := by decide +kernel
theorem dX4_addRule_43 : decode cX4_addRule 43 = .ok (.iload_n 3, 1) := by decide +kernel
theorem dX4_addRule_44 : decode cX4_addRule 44 = .ok (.iload 4, 2) := by decide +kernel
theorem dX4_addRule_46 : decode cX4_addRule 46 = .ok (.invokevirtual 96, 3) := by decide +kernel
theorem dX4_addRule_49 : decode cX4_addRule 49 = .ok (.ireturn, 1) := by decide +kernel
theorem dX4_block_0 : decode cX4_block 0 = .ok (.iconst 1, 1) := by decide +kernel
theorem dX4_block_1 : decode cX4_block 1 = .ok (.istore_n 2, 1) := by decide +kernel
theorem dX4_block_2 : decode cX4_block 2 = .ok (.iload_n 2, 1) := by decide +kernel
theorem dX4_block_3 : decode cX4_block 3 = .ok (.sipush 256, 3) := by decide +kernel
theorem dX4_block_6 : decode cX4_block 6 = .ok (.if_icmp .ge 29, 3) := by decide +kernel
theorem dX4_block_9 : decode cX4_block 9 = .ok (.iload_n 0, 1) := by decide +kernel
theorem dX4_block_10 : decode cX4_block 10 = .ok (.iconst 2, 1) := by decide +kernel
theorem dX4_block_11 : decode cX4_block 11 = .ok (.iload_n 2, 1) := by decide +kernel
theorem dX4_block_12 : decode cX4_block 12 = .ok (.imul, 1) := by decide +kernel
theorem dX4_block_13 : decode cX4_block 13 = .ok (.irem, 1) := by decide +kernel
theorem dX4_block_14 : decode cX4_block 14 = .ok (.ifCond .ne 21, 3) := by decide +kernel
theorem dX4_block_17 : decode cX4_block 17 = .ok (.iload_n 0, 1) := by decide +kernel
theorem dX4_block_18 : decode cX4_block 18 = .ok (.iconst 2, 1) := by decide +kernel
theorem dX4_block_19 : decode cX4_block 19 = .ok (.iload_n 2, 1) := by decide +kernel
theorem dX4_block_20 : decode cX4_block 20 = .ok (.imul, 1) := by decide +kernel
theorem dX4_block_21 : decode cX4_block 21 = .ok (.iadd, 1) := by decide +kernel
theorem dX4_block_22 : decode cX4_block 22 = .ok (.iconst 1, 1) := by decide +kernel
theorem dX4_block_23 : decode cX4_block 23 = .ok (.isub, 1) := by decide +kernel
theorem dX4_block_24 : decode cX4_block 24 = .ok (.iload_n 1, 1) := by decide +kernel
theorem dX4_block_25 : decode cX4_block 25 = .ok (.if_icmp .gt 10, 3) := by decide +kernel
theorem dX4_block_28 : decode cX4_block 28 = .ok (.iload_n 2, 1) := by decide +kernel
theorem dX4_block_29 : decode cX4_block 29 = .ok (.iconst 2, 1) := by decide +kernel
theorem dX4_block_30 : decode cX4_block 30 = .ok (.imul, 1) := by decide +kernel
theorem dX4_block_31 : decode cX4_block 31 = .ok (.istore_n 2, 1) := by decide +kernel
theorem dX4_block_32 : decode cX4_block 32 = .ok (.goto (-30), 3) := by decide +kernel
theorem dX4_block_35 : decode cX4_block 35 = .ok (.iload_n 2, 1) := by decide +kernel
theorem dX4_block_36 : decode cX4_block 36 = .ok (.ireturn, 1) := by decide +kernel
theorem dX4_blocks_0 : decode cX4_blocks 0 = .ok (.iconst 0, 1) := by decide +kernel
theorem dX4_blocks_1 : decode cX4_blocks 1 = .ok (.istore_n 2, 1) := by decide +kernel
theorem dX4_blocks_2 : decode cX4_blocks 2 = .ok (.iload_n 0, 1) := by decide +kernel
theorem dX4_blocks_3 : decode cX4_blocks 3 = .ok (.istore_n 3, 1) := by decide +kernel
theorem dX4_blocks_4 : decode cX4_blocks 4 = .ok (.iload_n 3, 1) := by decide +kernel
theorem dX4_blocks_5 : decode cX4_blocks 5 = .ok (.iload_n 1, 1) := by decide +kernel
theorem dX4_blocks_6 : decode cX4_blocks 6 = .ok (.if_icmp .gt 17, 3) := by decide +kernel
theorem dX4_blocks_9 : decode cX4_blocks 9 = .ok (.iinc 2 1, 3) := by decide +kernel
theorem dX4_blocks_12 : decode cX4_blocks 12 = .ok (.iload_n 3, 1) := by decide +kernel
theorem dX4_blocks_13 : decode cX4_blocks 13 = .ok (.iload_n 3, 1) := by decide +kernel
theorem dX4_blocks_14 : decode cX4_blocks 14 = .ok (.iload_n 1, 1) := by decide +kernel
theorem dX4_blocks_15 : decode cX4_blocks 15 = .ok (.invokestatic 100, 3) := by decide +kernel
theorem dX4_blocks_18 : decode cX4_blocks 18 = .ok (.iadd, 1) := by decide +kernel
theorem dX4_blocks_19 : decode cX4_blocks 19 = .ok (.istore_n 3, 1) := by decide +kernel
theorem dX4_blocks_20 : decode cX4_blocks 20 = .ok (.goto (-16), 3) := by decide +kernel
theorem dX4_blocks_23 : decode cX4_blocks 23 = .ok (.iload_n 2, 1) := by decide +kernel
theorem dX4_blocks_24 : decode cX4_blocks 24 = .ok (.ireturn, 1) := by decide +kernel
theorem dX4_addRange_0 : decode cX4_addRange 0 = .ok (.iload_n 1, 1) := by decide +kernel
theorem dX4_addRange_1 : decode cX4_addRange 1 = .ok (.iload_n 2, 1) := by decide +kernel
theorem dX4_addRange_2 : decode cX4_addRange 2 = .ok (.invokestatic 103, 3) := by decide +kernel
theorem dX4_addRange_5 : decode cX4_addRange 5 = .ok (.ifCond .eq 12, 3) := by decide +kernel
theorem dX4_addRange_8 : decode cX4_addRange 8 = .ok (.iload_n 3, 1) := by decide +kernel
theorem dX4_addRange_9 : decode cX4_addRange 9 = .ok (.iload 4, 2) := by decide +kernel
theorem dX4_addRange_11 : decode cX4_addRange 11 = .ok (.invokestatic 89, 3) := by decide +kernel
theorem dX4_addRange_14 : decode cX4_addRange 14 = .ok (.ifCond .ne 6, 3) := by decide +kernel
theorem dX4_addRange_17 : decode cX4_addRange 17 = .ok (.bipush (-2), 2) := by decide +kernel
theorem dX4_addRange_19 : decode cX4_addRange 19 = .ok (.ireturn, 1) := by decide +kernel
theorem dX4_addRange_20 : decode cX4_addRange 20 = .ok (.aload_n 0, 1) := by decide +kernel
theorem dX4_addRange_21 : decode cX4_addRange 21 = .ok (.invokevirtual 93, 3) := by decide +kernel
theorem dX4_addRange_24 : decode cX4_addRange 24 = .ok (.iload_n 1, 1) := by decide +kernel
theorem dX4_addRange_25 : decode cX4_addRange 25 = .ok (.iload_n 2, 1) := by decide +kernel
theorem dX4_addRange_26 : decode cX4_addRange 26 = .ok (.invokestatic 106, 3) := by decide +kernel
theorem dX4_addRange_29 : decode cX4_addRange 29 = .ok (.if_icmp .ge 6, 3) := by decide +kernel
theorem dX4_addRange_32 : decode cX4_addRange 32 = .ok (.bipush (-3), 2) := by decide +kernel
theorem dX4_addRange_34 : decode cX4_addRange 34 = .ok (.ireturn, 1) := by decide +kernel
theorem dX4_addRange_35 : decode cX4_addRange 35 = .ok (.aload_n 0, 1) := by decide +kernel
theorem dX4_addRange_36 : decode cX4_addRange 36 = .ok (.invokevirtual 48, 3) := by decide +kernel
theorem dX4_addRange_39 : decode cX4_addRange 39 = .ok (.aload_n 0, 1) := by decide +kernel
theorem dX4_addRange_40 : decode cX4_addRange 40 = .ok (.getfield 7, 3) := by decide +kernel
theorem dX4_addRange_43 : decode cX4_addRange 43 = .ok (.sipush 225, 3) := by decide +kernel
theorem dX4_addRange_46 : decode cX4_addRange 46 = .ok (.iaload, 1) := by decide +kernel
theorem dX4_addRange_47 : decode cX4_addRange 47 = .ok (.istore 5, 2) := by decide +kernel
theorem dX4_addRange_49 : decode cX4_addRange 49 = .ok (.iconst 0, 1) := by decide +kernel
theorem dX4_addRange_50 : decode cX4_addRange 50 = .ok (.istore 6, 2) := by decide +kernel
theorem dX4_addRange_52 : decode cX4_addRange 52 = .ok (.iload_n 1, 1) := by decide +kernel
theorem dX4_addRange_53 : decode cX4_addRange 53 = .ok (.istore 7, 2) := by decide +kernel
theorem dX4_addRange_55 : decode cX4_addRange 55 = .ok (.iload 7, 2) := by decide +kernel
theorem dX4_addRange_57 : decode cX4_addRange 57 = .ok (.iload_n 2, 1) := by decide +kernel
theorem dX4_addRange_58 : decode cX4_addRange 58 = .ok (.if_icmp .gt 48, 3) := by decide +kernel
theorem dX4_addRange_61 : decode cX4_addRange 61 = .ok (.aload_n 0, 1) := by decide +kernel
theorem dX4_addRange_62 : decode cX4_addRange 62 = .ok (.aload_n 0, 1) := by decide +kernel
theorem dX4_addRange_63 : decode cX4_addRange 63 = .ok (.iload_n 3, 1) := by decide +kernel
theorem dX4_addRange_64 : decode cX4_addRange 64 = .ok (.invokevirtual 82, 3) := by decide +kernel
theorem dX4_addRange_67 : decode cX4_addRange 67 = .ok (.iload 5, 2) := by decide +kernel
theorem dX4_addRange_69 : decode cX4_addRange 69 = .ok (.iload 6, 2) := by decide +kernel
theorem dX4_addRange_71 : decode cX4_addRange 71 = .ok (.sipush 256, 3) := by decide +kernel
theorem dX4_addRange_74 : decode cX4_addRange 74 = .ok (.iload 7, 2) := by decide +kernel
theorem dX4_addRange_76 : decode cX4_addRange 76 = .ok (.iload_n 2, 1) := by decide +kernel
theorem dX4_addRange_77 : decode cX4_addRange 77 = .ok (.invokestatic 100, 3) := by decide +kernel
theorem dX4_addRange_80 : decode cX4_addRange 80 = .ok (.isub, 1) := by decide +kernel
theorem dX4_addRange_81 : decode cX4_addRange 81 = .ok (.iload 7, 2) := by decide +kernel
theorem dX4_addRange_83 : decode cX4_addRange 83 = .ok (.iload_n 3, 1) := by decide +kernel
theorem dX4_addRange_84 : decode cX4_addRange 84 = .ok (.iload 4, 2) := by decide +kernel
theorem dX4_addRange_86 : decode cX4_addRange 86 = .ok (.invokevirtual 85, 3) := by decide +kernel
theorem dX4_addRange_89 : decode cX4_addRange 89 = .ok (.iinc 6 1, 3) := by decide +kernel
theorem dX4_addRange_92 : decode cX4_addRange 92 = .ok (.iload 7, 2) := by decide +kernel
theorem dX4_addRange_94 : decode cX4_addRange 94 = .ok (.iload 7, 2) := by decide +kernel
theorem dX4_addRange_96 : decode cX4_addRange 96 = .ok (.iload_n 2, 1) := by decide +kernel
theorem dX4_addRange_97 : decode cX4_addRange 97 = .ok (.invokestatic 100, 3) := by decide +kernel
theorem dX4_addRange_100 : decode cX4_addRange 100 = .ok (.iadd, 1) := by decide +kernel
theorem dX4_addRange_101 : decode cX4_addRange 101 = .ok (.istore 7, 2) := by decide +kernel
theorem dX4_addRange_103 : decode cX4_addRange 103 = .ok (.goto (-48), 3) := by decide +kernel
theorem dX4_addRange_106 : decode cX4_addRange 106 = .ok (.aload_n 0, 1) := by decide +kernel
theorem dX4_addRange_107 : decode cX4_addRange 107 = .ok (.getfield 7, 3) := by decide +kernel
theorem dX4_addRange_110 : decode cX4_addRange 110 = .ok (.sipush 225, 3) := by decide +kernel
theorem dX4_addRange_113 : decode cX4_addRange 113 = .ok (.dup2, 1) := by decide +kernel
theorem dX4_addRange_114 : decode cX4_addRange 114 = .ok (.iaload, 1) := by decide +kernel
theorem dX4_addRange_115 : decode cX4_addRange 115 = .ok (.iconst 1, 1) := by decide +kernel
theorem dX4_addRange_116 : decode cX4_addRange 116 = .ok (.iadd, 1) := by decide +kernel
theorem dX4_addRange_117 : decode cX4_addRange 117 = .ok (.iastore, 1) := by decide +kernel
theorem dX4_addRange_118 : decode cX4_addRange 118 = .ok (.iload 5, 2) := by decide +kernel
theorem dX4_addRange_120 : decode cX4_addRange 120 = .ok (.ireturn, 1) := by decide +kernel
theorem dX4_slotWith_0 : decode cX4_slotWith 0 = .ok (.bipush 32, 2) := by decide +kernel
theorem dX4_slotWith_2 : decode cX4_slotWith 2 = .ok (.istore_n 3, 1) := by decide +kernel
theorem dX4_slotWith_3 : decode cX4_slotWith 3 = .ok (.iconst 0, 1) := by decide +kernel
theorem dX4_slotWith_4 : decode cX4_slotWith 4 = .ok (.istore 4, 2) := by decide +kernel
theorem dX4_slotWith_6 : decode cX4_slotWith 6 = .ok (.iload 4, 2) := by decide +kernel
theorem dX4_slotWith_8 : decode cX4_slotWith 8 = .ok (.bipush 32, 2) := by decide +kernel
theorem dX4_slotWith_10 : decode cX4_slotWith 10 = .ok (.if_icmp .ge 49, 3) := by decide +kernel
theorem dX4_slotWith_13 : decode cX4_slotWith 13 = .ok (.aload_n 0, 1) := by decide +kernel
theorem dX4_slotWith_14 : decode cX4_slotWith 14 = .ok (.iload 4, 2) := by decide +kernel
theorem dX4_slotWith_16 : decode cX4_slotWith 16 = .ok (.invokevirtual 51, 3) := by decide +kernel
theorem dX4_slotWith_19 : decode cX4_slotWith 19 = .ok (.ifCond .ne 32, 3) := by decide +kernel
theorem dX4_slotWith_22 : decode cX4_slotWith 22 = .ok (.aload_n 0, 1) := by decide +kernel
theorem dX4_slotWith_23 : decode cX4_slotWith 23 = .ok (.iload 4, 2) := by decide +kernel
theorem dX4_slotWith_25 : decode cX4_slotWith 25 = .ok (.iconst 0, 1) := by decide +kernel
theorem dX4_slotWith_26 : decode cX4_slotWith 26 = .ok (.invokevirtual 55, 3) := by decide +kernel
theorem dX4_slotWith_29 : decode cX4_slotWith 29 = .ok (.iconst 1, 1) := by decide +kernel
theorem dX4_slotWith_30 : decode cX4_slotWith 30 = .ok (.isub, 1) := by decide +kernel
theorem dX4_slotWith_31 : decode cX4_slotWith 31 = .ok (.iload_n 1, 1) := by decide +kernel
theorem dX4_slotWith_32 : decode cX4_slotWith 32 = .ok (.if_icmp .ne 19, 3) := by decide +kernel
theorem dX4_slotWith_35 : decode cX4_slotWith 35 = .ok (.aload_n 0, 1) := by decide +kernel
theorem dX4_slotWith_36 : decode cX4_slotWith 36 = .ok (.iload 4, 2) := by decide +kernel
theorem dX4_slotWith_38 : decode cX4_slotWith 38 = .ok (.iconst 1, 1) := by decide +kernel
theorem dX4_slotWith_39 : decode cX4_slotWith 39 = .ok (.invokevirtual 55, 3) := by decide +kernel
theorem dX4_slotWith_42 : decode cX4_slotWith 42 = .ok (.iload_n 2, 1) := by decide +kernel
theorem dX4_slotWith_43 : decode cX4_slotWith 43 = .ok (.if_icmp .ne 8, 3) := by decide +kernel
theorem dX4_slotWith_46 : decode cX4_slotWith 46 = .ok (.iload 4, 2) := by decide +kernel
theorem dX4_slotWith_48 : decode cX4_slotWith 48 = .ok (.goto 4, 3) := by decide +kernel
theorem dX4_slotWith_51 : decode cX4_slotWith 51 = .ok (.iload_n 3, 1) := by decide +kernel
theorem dX4_slotWith_52 : decode cX4_slotWith 52 = .ok (.istore_n 3, 1) := by decide +kernel
theorem dX4_slotWith_53 : decode cX4_slotWith 53 = .ok (.iinc 4 1, 3) := by decide +kernel
theorem dX4_slotWith_56 : decode cX4_slotWith 56 = .ok (.goto (-50), 3) := by decide +kernel
theorem dX4_slotWith_59 : decode cX4_slotWith 59 = .ok (.iload_n 3, 1) := by decide +kernel
theorem dX4_slotWith_60 : decode cX4_slotWith 60 = .ok (.ireturn, 1) := by decide +kernel
theorem dX4_isRule_0 : decode cX4_isRule 0 = .ok (.aload_n 0, 1) := by decide +kernel
theorem dX4_isRule_1 : decode cX4_isRule 1 = .ok (.iload_n 1, 1) := by decide +kernel
theorem dX4_isRule_2 : decode cX4_isRule 2 = .ok (.iconst 0, 1) := by decide +kernel
theorem dX4_isRule_3 : decode cX4_isRule 3 = .ok (.invokevirtual 109, 3) := by decide +kernel
theorem dX4_isRule_6 : decode cX4_isRule 6 = .ok (.bipush 32, 2) := by decide +kernel
theorem dX4_isRule_8 : decode cX4_isRule 8 = .ok (.if_icmp .ge 7, 3) := by decide +kernel
theorem dX4_isRule_11 : decode cX4_isRule 11 = .ok (.iconst 1, 1) := by decide +kernel
theorem dX4_isRule_12 : decode cX4_isRule 12 = .ok (.goto 4, 3) := by decide +kernel
theorem dX4_isRule_15 : decode cX4_isRule 15 = .ok (.iconst 0, 1) := by decide +kernel
theorem dX4_isRule_16 : decode cX4_isRule 16 = .ok (.ireturn, 1) := by decide +kernel
theorem dX4_partsOf_0 : decode cX4_partsOf 0 = .ok (.iconst 0, 1) := by decide +kernel
theorem dX4_partsOf_1 : decode cX4_partsOf 1 = .ok (.istore_n 2, 1) := by decide +kernel
theorem dX4_partsOf_2 : decode cX4_partsOf 2 = .ok (.iconst 0, 1) := by decide +kernel
theorem dX4_partsOf_3 : decode cX4_partsOf 3 = .ok (.istore_n 3, 1) := by decide +kernel
theorem dX4_partsOf_4 : decode cX4_partsOf 4 = .ok (.iload_n 3, 1) := by decide +kernel
theorem dX4_partsOf_5 : decode cX4_partsOf 5 = .ok (.bipush 32, 2) := by decide +kernel
theorem dX4_partsOf_7 : decode cX4_partsOf 7 = .ok (.if_icmp .ge 37, 3) := by decide +kernel
theorem dX4_partsOf_10 : decode cX4_partsOf 10 = .ok (.iload_n 2, 1) := by decide +kernel
theorem dX4_partsOf_11 : decode cX4_partsOf 11 = .ok (.aload_n 0, 1) := by decide +kernel
theorem dX4_partsOf_12 : decode cX4_partsOf 12 = .ok (.iload_n 3, 1) := by decide +kernel
theorem dX4_partsOf_13 : decode cX4_partsOf 13 = .ok (.invokevirtual 51, 3) := by decide +kernel
theorem dX4_partsOf_16 : decode cX4_partsOf 16 = .ok (.ifCond .ne 19, 3) := by decide +kernel
theorem dX4_partsOf_19 : decode cX4_partsOf 19 = .ok (.aload_n 0, 1) := by decide +kernel
theorem dX4_partsOf_20 : decode cX4_partsOf 20 = .ok (.iload_n 3, 1) := by decide +kernel
theorem dX4_partsOf_21 : decode cX4_partsOf 21 = .ok (.iconst 0, 1) := by decide +kernel
theorem dX4_partsOf_22 : decode cX4_partsOf 22 = .ok (.invokevirtual 55, 3) := by decide +kernel
theorem dX4_partsOf_25 : decode cX4_partsOf 25 = .ok (.iconst 1, 1) := by decide +kernel
theorem dX4_partsOf_26 : decode cX4_partsOf 26 = .ok (.isub, 1) := by decide +kernel
theorem dX4_partsOf_27 : decode cX4_partsOf 27 = .ok (.iload_n 1, 1) := by decide +kernel
theorem dX4_partsOf_28 : decode cX4_partsOf 28 = .ok (.if_icmp .ne 7, 3) := by decide +kernel
theorem dX4_partsOf_31 : decode cX4_partsOf 31 = .ok (.iconst 1, 1) := by decide +kernel
theorem dX4_partsOf_32 : decode cX4_partsOf 32 = .ok (.goto 4, 3) := by decide +kernel
theorem dX4_partsOf_35 : decode cX4_partsOf 35 = .ok (.iconst 0, 1) := by decide +kernel
theorem dX4_partsOf_36 : decode cX4_partsOf 36 = .ok (.iadd, 1) := by decide +kernel
theorem dX4_partsOf_37 : decode cX4_partsOf 37 = .ok (.istore_n 2, 1) := by decide +kernel
theorem dX4_partsOf_38 : decode cX4_partsOf 38 = .ok (.iinc 3 1, 3) := by decide +kernel
theorem dX4_partsOf_41 : decode cX4_partsOf 41 = .ok (.goto (-37), 3) := by decide +kernel
theorem dX4_partsOf_44 : decode cX4_partsOf 44 = .ok (.iload_n 2, 1) := by decide +kernel
theorem dX4_partsOf_45 : decode cX4_partsOf 45 = .ok (.ireturn, 1) := by decide +kernel
theorem dX4_remove_0 : decode cX4_remove 0 = .ok (.aload_n 0, 1) := by decide +kernel
theorem dX4_remove_1 : decode cX4_remove 1 = .ok (.iload_n 1, 1) := by decide +kernel
theorem dX4_remove_2 : decode cX4_remove 2 = .ok (.invokevirtual 112, 3) := by decide +kernel
theorem dX4_remove_5 : decode cX4_remove 5 = .ok (.ifCond .ne 5, 3) := by decide +kernel
theorem dX4_remove_8 : decode cX4_remove 8 = .ok (.iconst (-1), 1) := by decide +kernel
theorem dX4_remove_9 : decode cX4_remove 9 = .ok (.ireturn, 1) := by decide +kernel
theorem dX4_remove_10 : decode cX4_remove 10 = .ok (.aload_n 0, 1) := by decide +kernel
theorem dX4_remove_11 : decode cX4_remove 11 = .ok (.invokevirtual 48, 3) := by decide +kernel
theorem dX4_remove_14 : decode cX4_remove 14 = .ok (.iconst 0, 1) := by decide +kernel
theorem dX4_remove_15 : decode cX4_remove 15 = .ok (.istore_n 2, 1) := by decide +kernel
theorem dX4_remove_16 : decode cX4_remove 16 = .ok (.iconst 0, 1) := by decide +kernel
theorem dX4_remove_17 : decode cX4_remove 17 = .ok (.istore_n 3, 1) := by decide +kernel
theorem dX4_remove_18 : decode cX4_remove 18 = .ok (.iload_n 3, 1) := by decide +kernel
theorem dX4_remove_19 : decode cX4_remove 19 = .ok (.bipush 32, 2) := by decide +kernel
theorem dX4_remove_21 : decode cX4_remove 21 = .ok (.if_icmp .ge 37, 3) := by decide +kernel
theorem dX4_remove_24 : decode cX4_remove 24 = .ok (.aload_n 0, 1) := by decide +kernel
theorem dX4_remove_25 : decode cX4_remove 25 = .ok (.iload_n 3, 1) := by decide +kernel
theorem dX4_remove_26 : decode cX4_remove 26 = .ok (.invokevirtual 51, 3) := by decide +kernel
theorem dX4_remove_29 : decode cX4_remove 29 = .ok (.ifCond .ne 23, 3) := by decide +kernel
theorem dX4_remove_32 : decode cX4_remove 32 = .ok (.aload_n 0, 1) := by decide +kernel
theorem dX4_remove_33 : decode cX4_remove 33 = .ok (.iload_n 3, 1) := by decide +kernel
theorem dX4_remove_34 : decode cX4_remove 34 = .ok (.iconst 0, 1) := by decide +kernel
theorem dX4_remove_35 : decode cX4_remove 35 = .ok (.invokevirtual 55, 3) := by decide +kernel
theorem dX4_remove_38 : decode cX4_remove 38 = .ok (.iconst 1, 1) := by decide +kernel
theorem dX4_remove_39 : decode cX4_remove 39 = .ok (.isub, 1) := by decide +kernel
theorem dX4_remove_40 : decode cX4_remove 40 = .ok (.iload_n 1, 1) := by decide +kernel
theorem dX4_remove_41 : decode cX4_remove 41 = .ok (.if_icmp .ne 11, 3) := by decide +kernel
theorem dX4_remove_44 : decode cX4_remove 44 = .ok (.aload_n 0, 1) := by decide +kernel
theorem dX4_remove_45 : decode cX4_remove 45 = .ok (.iload_n 3, 1) := by decide +kernel
theorem dX4_remove_46 : decode cX4_remove 46 = .ok (.invokevirtual 115, 3) := by decide +kernel
theorem dX4_remove_49 : decode cX4_remove 49 = .ok (.iinc 2 1, 3) := by decide +kernel
theorem dX4_remove_52 : decode cX4_remove 52 = .ok (.iinc 3 1, 3) := by decide +kernel
theorem dX4_remove_55 : decode cX4_remove 55 = .ok (.goto (-37), 3) := by decide +kernel
theorem dX4_remove_58 : decode cX4_remove 58 = .ok (.iload_n 2, 1) := by decide +kernel
theorem dX4_remove_59 : decode cX4_remove 59 = .ok (.ireturn, 1) := by decide +kernel
theorem dX4_setPlacing_0 : decode cX4_setPlacing 0 = .ok (.iload_n 1, 1) := by decide +kernel
theorem dX4_setPlacing_1 : decode cX4_setPlacing 1 = .ok (.iconst 0, 1) := by decide +kernel
theorem dX4_setPlacing_2 : decode cX4_setPlacing 2 = .ok (.iconst 2, 1) := by decide +kernel
theorem dX4_setPlacing_3 : decode cX4_setPlacing 3 = .ok (.invokestatic 28, 3) := by decide +kernel
theorem dX4_setPlacing_6 : decode cX4_setPlacing 6 = .ok (.ifCond .ne 6, 3) := by decide +kernel
theorem dX4_setPlacing_9 : decode cX4_setPlacing 9 = .ok (.bipush (-2), 2) := by decide +kernel
theorem dX4_setPlacing_11 : decode cX4_setPlacing 11 = .ok (.ireturn, 1) := by decide +kernel
theorem dX4_setPlacing_12 : decode cX4_setPlacing 12 = .ok (.aload_n 0, 1) := by decide +kernel
theorem dX4_setPlacing_13 : decode cX4_setPlacing 13 = .ok (.getfield 7, 3) := by decide +kernel
theorem dX4_setPlacing_16 : decode cX4_setPlacing 16 = .ok (.sipush 224, 3) := by decide +kernel
theorem dX4_setPlacing_19 : decode cX4_setPlacing 19 = .ok (.iaload, 1) := by decide +kernel
theorem dX4_setPlacing_20 : decode cX4_setPlacing 20 = .ok (.istore_n 2, 1) := by decide +kernel
theorem dX4_setPlacing_21 : decode cX4_setPlacing 21 = .ok (.iload_n 2, 1) := by decide +kernel
theorem dX4_setPlacing_22 : decode cX4_setPlacing 22 = .ok (.iload_n 1, 1) := by decide +kernel
theorem dX4_setPlacing_23 : decode cX4_setPlacing 23 = .ok (.if_icmp .ne 6, 3) := by decide +kernel
theorem dX4_setPlacing_26 : decode cX4_setPlacing 26 = .ok (.bipush (-4), 2) := by decide +kernel
theorem dX4_setPlacing_28 : decode cX4_setPlacing 28 = .ok (.ireturn, 1) := by decide +kernel
theorem dX4_setPlacing_29 : decode cX4_setPlacing 29 = .ok (.aload_n 0, 1) := by decide +kernel
theorem dX4_setPlacing_30 : decode cX4_setPlacing 30 = .ok (.invokevirtual 48, 3) := by decide +kernel
theorem dX4_setPlacing_33 : decode cX4_setPlacing 33 = .ok (.aload_n 0, 1) := by decide +kernel
theorem dX4_setPlacing_34 : decode cX4_setPlacing 34 = .ok (.getfield 7, 3) := by decide +kernel
theorem dX4_setPlacing_37 : decode cX4_setPlacing 37 = .ok (.sipush 224, 3) := by decide +kernel
theorem dX4_setPlacing_40 : decode cX4_setPlacing 40 = .ok (.iload_n 1, 1) := by decide +kernel
theorem dX4_setPlacing_41 : decode cX4_setPlacing 41 = .ok (.iastore, 1) := by decide +kernel
theorem dX4_setPlacing_42 : decode cX4_setPlacing 42 = .ok (.iload_n 2, 1) := by decide +kernel
theorem dX4_setPlacing_43 : decode cX4_setPlacing 43 = .ok (.ireturn, 1) := by decide +kernel
theorem dX4_target_0 : decode cX4_target 0 = .ok (.iload_n 2, 1) := by decide +kernel
theorem dX4_target_1 : decode cX4_target 1 = .ok (.ifCond .eq 12, 3) := by decide +kernel
theorem dX4_target_4 : decode cX4_target 4 = .ok (.bipush 32, 2) := by decide +kernel
theorem dX4_target_6 : decode cX4_target 6 = .ok (.iload_n 0, 1) := by decide +kernel
theorem dX4_target_7 : decode cX4_target 7 = .ok (.imul, 1) := by decide +kernel
theorem dX4_target_8 : decode cX4_target 8 = .ok (.iload_n 1, 1) := by decide +kernel
theorem dX4_target_9 : decode cX4_target 9 = .ok (.idiv, 1) := by decide +kernel
theorem dX4_target_10 : decode cX4_target 10 = .ok (.goto 4, 3) := by decide +kernel
theorem dX4_target_13 : decode cX4_target 13 = .ok (.iload_n 0, 1) := by decide +kernel
theorem dX4_target_14 : decode cX4_target 14 = .ok (.ireturn, 1) := by decide +kernel
theorem dX4_rearrange_0 : decode cX4_rearrange 0 = .ok (.aload_n 0, 1) := by decide +kernel
theorem dX4_rearrange_1 : decode cX4_rearrange 1 = .ok (.invokevirtual 44, 3) := by decide +kernel
theorem dX4_rearrange_4 : decode cX4_rearrange 4 = .ok (.istore_n 2, 1) := by decide +kernel
theorem dX4_rearrange_5 : decode cX4_rearrange 5 = .ok (.iconst 0, 1) := by decide +kernel
theorem dX4_rearrange_6 : decode cX4_rearrange 6 = .ok (.istore_n 3, 1) := by decide +kernel
theorem dX4_rearrange_7 : decode cX4_rearrange 7 = .ok (.iconst 0, 1) := by decide +kernel
theorem dX4_rearrange_8 : decode cX4_rearrange 8 = .ok (.istore 4, 2) := by decide +kernel
theorem dX4_rearrange_10 : decode cX4_rearrange 10 = .ok (.iconst 0, 1) := by decide +kernel
theorem dX4_rearrange_11 : decode cX4_rearrange 11 = .ok (.istore 5, 2) := by decide +kernel
theorem dX4_rearrange_13 : decode cX4_rearrange 13 = .ok (.iload 5, 2) := by decide +kernel
theorem dX4_rearrange_15 : decode cX4_rearrange 15 = .ok (.bipush 32, 2) := by decide +kernel
theorem dX4_rearrange_17 : decode cX4_rearrange 17 = .ok (.if_icmp .ge 42, 3) := by decide +kernel
theorem dX4_rearrange_20 : decode cX4_rearrange 20 = .ok (.aload_n 0, 1) := by decide +kernel
theorem dX4_rearrange_21 : decode cX4_rearrange 21 = .ok (.iload 5, 2) := by decide +kernel
theorem dX4_rearrange_23 : decode cX4_rearrange 23 = .ok (.invokevirtual 51, 3) := by decide +kernel
theorem dX4_rearrange_26 : decode cX4_rearrange 26 = .ok (.ifCond .ne 27, 3) := by decide +kernel
theorem dX4_rearrange_29 : decode cX4_rearrange 29 = .ok (.iload 4, 2) := by decide +kernel
theorem dX4_rearrange_31 : decode cX4_rearrange 31 = .ok (.iload_n 3, 1) := by decide +kernel
theorem dX4_rearrange_32 : decode cX4_rearrange 32 = .ok (.iload_n 2, 1) := by decide +kernel
theorem dX4_rearrange_33 : decode cX4_rearrange 33 = .ok (.iload_n 1, 1) := by decide +kernel
theorem dX4_rearrange_34 : decode cX4_rearrange 34 = .ok (.invokestatic 119, 3) := by decide +kernel
theorem dX4_rearrange_37 : decode cX4_rearrange 37 = .ok (.iload 5, 2) := by decide +kernel
theorem dX4_rearrange_39 : decode cX4_rearrange 39 = .ok (.if_icmp .ne 7, 3) := by decide +kernel
theorem dX4_rearrange_42 : decode cX4_rearrange 42 = .ok (.iconst 0, 1) := by decide +kernel
theorem dX4_rearrange_43 : decode cX4_rearrange 43 = .ok (.goto 4, 3) := by decide +kernel
theorem dX4_rearrange_46 : decode cX4_rearrange 46 = .ok (.iconst 1, 1) := by decide +kernel
theorem dX4_rearrange_47 : decode cX4_rearrange 47 = .ok (.iadd, 1) := by decide +kernel
theorem dX4_rearrange_48 : decode cX4_rearrange 48 = .ok (.istore 4, 2) := by decide +kernel
theorem dX4_rearrange_50 : decode cX4_rearrange 50 = .ok (.iinc 3 1, 3) := by decide +kernel
theorem dX4_rearrange_53 : decode cX4_rearrange 53 = .ok (.iinc 5 1, 3) := by decide +kernel
theorem dX4_rearrange_56 : decode cX4_rearrange 56 = .ok (.goto (-43), 3) := by decide +kernel
theorem dX4_rearrange_59 : decode cX4_rearrange 59 = .ok (.iload 4, 2) := by decide +kernel
theorem dX4_rearrange_61 : decode cX4_rearrange 61 = .ok (.ifCond .ne 6, 3) := by decide +kernel
theorem dX4_rearrange_64 : decode cX4_rearrange 64 = .ok (.bipush (-4), 2) := by decide +kernel
theorem dX4_rearrange_66 : decode cX4_rearrange 66 = .ok (.ireturn, 1) := by decide +kernel
theorem dX4_rearrange_67 : decode cX4_rearrange 67 = .ok (.aload_n 0, 1) := by decide +kernel
theorem dX4_rearrange_68 : decode cX4_rearrange 68 = .ok (.invokevirtual 48, 3) := by decide +kernel
theorem dX4_rearrange_71 : decode cX4_rearrange 71 = .ok (.aload_n 0, 1) := by decide +kernel
theorem dX4_rearrange_72 : decode cX4_rearrange 72 = .ok (.getfield 7, 3) := by decide +kernel
theorem dX4_rearrange_75 : decode cX4_rearrange 75 = .ok (.iconst 0, 1) := by decide +kernel
theorem dX4_rearrange_76 : decode cX4_rearrange 76 = .ok (.aload_n 0, 1) := by decide +kernel
theorem dX4_rearrange_77 : decode cX4_rearrange 77 = .ok (.getfield 13, 3) := by decide +kernel
theorem dX4_rearrange_80 : decode cX4_rearrange 80 = .ok (.iconst 0, 1) := by decide +kernel
theorem dX4_rearrange_81 : decode cX4_rearrange 81 = .ok (.invokestatic 36, 3) := by decide +kernel
theorem dX4_rearrange_84 : decode cX4_rearrange 84 = .ok (.iconst 0, 1) := by decide +kernel
theorem dX4_rearrange_85 : decode cX4_rearrange 85 = .ok (.istore 5, 2) := by decide +kernel
theorem dX4_rearrange_87 : decode cX4_rearrange 87 = .ok (.iload 5, 2) := by decide +kernel
theorem dX4_rearrange_89 : decode cX4_rearrange 89 = .ok (.bipush 32, 2) := by decide +kernel
theorem dX4_rearrange_91 : decode cX4_rearrange 91 = .ok (.if_icmp .ge 15, 3) := by decide +kernel
theorem dX4_rearrange_94 : decode cX4_rearrange 94 = .ok (.aload_n 0, 1) := by decide +kernel
theorem dX4_rearrange_95 : decode cX4_rearrange 95 = .ok (.iload 5, 2) := by decide +kernel
theorem dX4_rearrange_97 : decode cX4_rearrange 97 = .ok (.invokevirtual 115, 3) := by decide +kernel
theorem dX4_rearrange_100 : decode cX4_rearrange 100 = .ok (.iinc 5 1, 3) := by decide +kernel
theorem dX4_rearrange_103 : decode cX4_rearrange 103 = .ok (.goto (-16), 3) := by decide +kernel
theorem dX4_rearrange_106 : decode cX4_rearrange 106 = .ok (.iconst 0, 1) := by decide +kernel
theorem dX4_rearrange_107 : decode cX4_rearrange 107 = .ok (.istore_n 3, 1) := by decide +kernel
theorem dX4_rearrange_108 : decode cX4_rearrange 108 = .ok (.iconst 0, 1) := by decide +kernel
theorem dX4_rearrange_109 : decode cX4_rearrange 109 = .ok (.istore 5, 2) := by decide +kernel
theorem dX4_rearrange_111 : decode cX4_rearrange 111 = .ok (.iload 5, 2) := by decide +kernel
theorem dX4_rearrange_113 : decode cX4_rearrange 113 = .ok (.bipush 32, 2) := by decide +kernel
theorem dX4_rearrange_115 : decode cX4_rearrange 115 = .ok (.if_icmp .ge 77, 3) := by decide +kernel
theorem dX4_rearrange_118 : decode cX4_rearrange 118 = .ok (.aload_n 0, 1) := by decide +kernel
theorem dX4_rearrange_119 : decode cX4_rearrange 119 = .ok (.getfield 13, 3) := by decide +kernel
theorem dX4_rearrange_122 : decode cX4_rearrange 122 = .ok (.bipush 7, 2) := by decide +kernel
theorem dX4_rearrange_124 : decode cX4_rearrange 124 = .ok (.iload 5, 2) := by decide +kernel
theorem dX4_rearrange_126 : decode cX4_rearrange 126 = .ok (.imul, 1) := by decide +kernel
theorem dX4_rearrange_127 : decode cX4_rearrange 127 = .ok (.iconst 0, 1) := by decide +kernel
theorem dX4_rearrange_128 : decode cX4_rearrange 128 = .ok (.iadd, 1) := by decide +kernel
theorem dX4_rearrange_129 : decode cX4_rearrange 129 = .ok (.iaload, 1) := by decide +kernel
theorem dX4_rearrange_130 : decode cX4_rearrange 130 = .ok (.ifCond .eq 56, 3) := by decide +kernel
theorem dX4_rearrange_133 : decode cX4_rearrange 133 = .ok (.iload_n 3, 1) := by decide +kernel
theorem dX4_rearrange_134 : decode cX4_rearrange 134 = .ok (.iload_n 2, 1) := by decide +kernel
theorem dX4_rearrange_135 : decode cX4_rearrange 135 = .ok (.iload_n 1, 1) := by decide +kernel
theorem dX4_rearrange_136 : decode cX4_rearrange 136 = .ok (.invokestatic 119, 3) := by decide +kernel
theorem dX4_rearrange_139 : decode cX4_rearrange 139 = .ok (.istore 6, 2) := by decide +kernel
theorem dX4_rearrange_141 : decode cX4_rearrange 141 = .ok (.iconst 0, 1) := by decide +kernel
theorem dX4_rearrange_142 : decode cX4_rearrange 142 = .ok (.istore 7, 2) := by decide +kernel
theorem dX4_rearrange_144 : decode cX4_rearrange 144 = .ok (.iload 7, 2) := by decide +kernel
theorem dX4_rearrange_146 : decode cX4_rearrange 146 = .ok (.bipush 7, 2) := by decide +kernel
theorem dX4_rearrange_148 : decode cX4_rearrange 148 = .ok (.if_icmp .ge 35, 3) := by decide +kernel
theorem dX4_rearrange_151 : decode cX4_rearrange 151 = .ok (.aload_n 0, 1) := by decide +kernel
theorem dX4_rearrange_152 : decode cX4_rearrange 152 = .ok (.getfield 7, 3) := by decide +kernel
theorem dX4_rearrange_155 : decode cX4_rearrange 155 = .ok (.bipush 7, 2) := by decide +kernel
theorem dX4_rearrange_157 : decode cX4_rearrange 157 = .ok (.iload 6, 2) := by decide +kernel
theorem dX4_rearrange_159 : decode cX4_rearrange 159 = .ok (.imul, 1) := by decide +kernel
theorem dX4_rearrange_160 : decode cX4_rearrange 160 = .ok (.iload 7, 2) := by decide +kernel
theorem dX4_rearrange_162 : decode cX4_rearrange 162 = .ok (.iadd, 1) := by decide +kernel
theorem dX4_rearrange_163 : decode cX4_rearrange 163 = .ok (.aload_n 0, 1) := by decide +kernel
theorem dX4_rearrange_164 : decode cX4_rearrange 164 = .ok (.getfield 13, 3) := by decide +kernel
theorem dX4_rearrange_167 : decode cX4_rearrange 167 = .ok (.bipush 7, 2) := by decide +kernel
theorem dX4_rearrange_169 : decode cX4_rearrange 169 = .ok (.iload 5, 2) := by decide +kernel
theorem dX4_rearrange_171 : decode cX4_rearrange 171 = .ok (.imul, 1) := by decide +kernel
theorem dX4_rearrange_172 : decode cX4_rearrange 172 = .ok (.iload 7, 2) := by decide +kernel
theorem dX4_rearrange_174 : decode cX4_rearrange 174 = .ok (.iadd, 1) := by decide +kernel
theorem dX4_rearrange_175 : decode cX4_rearrange 175 = .ok (.iaload, 1) := by decide +kernel
theorem dX4_rearrange_176 : decode cX4_rearrange 176 = .ok (.iastore, 1) := by decide +kernel
theorem dX4_rearrange_177 : decode cX4_rearrange 177 = .ok (.iinc 7 1, 3) := by decide +kernel
theorem dX4_rearrange_180 : decode cX4_rearrange 180 = .ok (.goto (-36), 3) := by decide +kernel
theorem dX4_rearrange_183 : decode cX4_rearrange 183 = .ok (.iinc 3 1, 3) := by decide +kernel
theorem dX4_rearrange_186 : decode cX4_rearrange 186 = .ok (.iinc 5 1, 3) := by decide +kernel
theorem dX4_rearrange_189 : decode cX4_rearrange 189 = .ok (.goto (-78), 3) := by decide +kernel
theorem dX4_rearrange_192 : decode cX4_rearrange 192 = .ok (.aload_n 0, 1) := by decide +kernel
theorem dX4_rearrange_193 : decode cX4_rearrange 193 = .ok (.getfield 7, 3) := by decide +kernel
theorem dX4_rearrange_196 : decode cX4_rearrange 196 = .ok (.sipush 226, 3) := by decide +kernel
theorem dX4_rearrange_199 : decode cX4_rearrange 199 = .ok (.dup2, 1) := by decide +kernel
theorem dX4_rearrange_200 : decode cX4_rearrange 200 = .ok (.iaload, 1) := by decide +kernel
theorem dX4_rearrange_201 : decode cX4_rearrange 201 = .ok (.iload 4, 2) := by decide +kernel
theorem dX4_rearrange_203 : decode cX4_rearrange 203 = .ok (.iadd, 1) := by decide +kernel
theorem dX4_rearrange_204 : decode cX4_rearrange 204 = .ok (.iastore, 1) := by decide +kernel
theorem dX4_rearrange_205 : decode cX4_rearrange 205 = .ok (.iload 4, 2) := by decide +kernel
theorem dX4_rearrange_207 : decode cX4_rearrange 207 = .ok (.ireturn, 1) := by decide +kernel
theorem dX4_compact_0 : decode cX4_compact 0 = .ok (.aload_n 0, 1) := by decide +kernel
theorem dX4_compact_1 : decode cX4_compact 1 = .ok (.iconst 0, 1) := by decide +kernel
theorem dX4_compact_2 : decode cX4_compact 2 = .ok (.invokevirtual 123, 3) := by decide +kernel
theorem dX4_compact_5 : decode cX4_compact 5 = .ok (.ireturn, 1) := by decide +kernel
theorem dX4_spread_0 : decode cX4_spread 0 = .ok (.aload_n 0, 1) := by decide +kernel
theorem dX4_spread_1 : decode cX4_spread 1 = .ok (.iconst 1, 1) := by decide +kernel
theorem dX4_spread_2 : decode cX4_spread 2 = .ok (.invokevirtual 123, 3) := by decide +kernel
theorem dX4_spread_5 : decode cX4_spread 5 = .ok (.ireturn, 1) := by decide +kernel
theorem dX4_matches_0 : decode cX4_matches 0 = .ok (.aload_n 0, 1) := by decide +kernel
theorem dX4_matches_1 : decode cX4_matches 1 = .ok (.iload_n 1, 1) := by decide +kernel
theorem dX4_matches_2 : decode cX4_matches 2 = .ok (.invokevirtual 51, 3) := by decide +kernel
theorem dX4_matches_5 : decode cX4_matches 5 = .ok (.ifCond .ne 24, 3) := by decide +kernel
theorem dX4_matches_8 : decode cX4_matches 8 = .ok (.iload_n 2, 1) := by decide +kernel
theorem dX4_matches_9 : decode cX4_matches 9 = .ok (.aload_n 0, 1) := by decide +kernel
theorem dX4_matches_10 : decode cX4_matches 10 = .ok (.iload_n 1, 1) := by decide +kernel
theorem dX4_matches_11 : decode cX4_matches 11 = .ok (.iconst 2, 1) := by decide +kernel
theorem dX4_matches_12 : decode cX4_matches 12 = .ok (.invokevirtual 55, 3) := by decide +kernel
theorem dX4_matches_15 : decode cX4_matches 15 = .ok (.iand, 1) := by decide +kernel
theorem dX4_matches_16 : decode cX4_matches 16 = .ok (.aload_n 0, 1) := by decide +kernel
theorem dX4_matches_17 : decode cX4_matches 17 = .ok (.iload_n 1, 1) := by decide +kernel
theorem dX4_matches_18 : decode cX4_matches 18 = .ok (.iconst 3, 1) := by decide +kernel
theorem dX4_matches_19 : decode cX4_matches 19 = .ok (.invokevirtual 55, 3) := by decide +kernel
theorem dX4_matches_22 : decode cX4_matches 22 = .ok (.if_icmp .ne 7, 3) := by decide +kernel
theorem dX4_matches_25 : decode cX4_matches 25 = .ok (.iconst 1, 1) := by decide +kernel
theorem dX4_matches_26 : decode cX4_matches 26 = .ok (.goto 4, 3) := by decide +kernel
theorem dX4_matches_29 : decode cX4_matches 29 = .ok (.iconst 0, 1) := by decide +kernel
theorem dX4_matches_30 : decode cX4_matches 30 = .ok (.ireturn, 1) := by decide +kernel
theorem dX4_slotFor_0 : decode cX4_slotFor 0 = .ok (.iconst 0, 1) := by decide +kernel
theorem dX4_slotFor_1 : decode cX4_slotFor 1 = .ok (.istore_n 2, 1) := by decide +kernel
theorem dX4_slotFor_2 : decode cX4_slotFor 2 = .ok (.iload_n 2, 1) := by decide +kernel
theorem dX4_slotFor_3 : decode cX4_slotFor 3 = .ok (.bipush 32, 2) := by decide +kernel
theorem dX4_slotFor_5 : decode cX4_slotFor 5 = .ok (.if_icmp .ge 18, 3) := by decide +kernel
theorem dX4_slotFor_8 : decode cX4_slotFor 8 = .ok (.aload_n 0, 1) := by decide +kernel
theorem dX4_slotFor_9 : decode cX4_slotFor 9 = .ok (.iload_n 2, 1) := by decide +kernel
theorem dX4_slotFor_10 : decode cX4_slotFor 10 = .ok (.iload_n 1, 1) := by decide +kernel
theorem dX4_slotFor_11 : decode cX4_slotFor 11 = .ok (.invokevirtual 127, 3) := by decide +kernel
theorem dX4_slotFor_14 : decode cX4_slotFor 14 = .ok (.ifCond .ne 9, 3) := by decide +kernel
theorem dX4_slotFor_17 : decode cX4_slotFor 17 = .ok (.iinc 2 1, 3) := by decide +kernel
theorem dX4_slotFor_20 : decode cX4_slotFor 20 = .ok (.goto (-18), 3) := by decide +kernel
theorem dX4_slotFor_23 : decode cX4_slotFor 23 = .ok (.iload_n 2, 1) := by decide +kernel
theorem dX4_slotFor_24 : decode cX4_slotFor 24 = .ok (.ireturn, 1) := by decide +kernel
theorem dX4_entriesIn_0 : decode cX4_entriesIn 0 = .ok (.iconst 0, 1) := by decide +kernel
theorem dX4_entriesIn_1 : decode cX4_entriesIn 1 = .ok (.istore_n 2, 1) := by decide +kernel
theorem dX4_entriesIn_2 : decode cX4_entriesIn 2 = .ok (.iconst 0, 1) := by decide +kernel
theorem dX4_entriesIn_3 : decode cX4_entriesIn 3 = .ok (.istore_n 3, 1) := by decide +kernel
theorem dX4_entriesIn_4 : decode cX4_entriesIn 4 = .ok (.iload_n 3, 1) := by decide +kernel
theorem dX4_entriesIn_5 : decode cX4_entriesIn 5 = .ok (.bipush 8, 2) := by decide +kernel
theorem dX4_entriesIn_7 : decode cX4_entriesIn 7 = .ok (.if_icmp .ge 30, 3) := by decide +kernel
theorem dX4_entriesIn_10 : decode cX4_entriesIn 10 = .ok (.iload_n 2, 1) := by decide +kernel
theorem dX4_entriesIn_11 : decode cX4_entriesIn 11 = .ok (.aload_n 0, 1) := by decide +kernel
theorem dX4_entriesIn_12 : decode cX4_entriesIn 12 = .ok (.bipush 8, 2) := by decide +kernel
theorem dX4_entriesIn_14 : decode cX4_entriesIn 14 = .ok (.iload_n 1, 1) := by decide +kernel
theorem dX4_entriesIn_15 : decode cX4_entriesIn 15 = .ok (.imul, 1) := by decide +kernel
theorem dX4_entriesIn_16 : decode cX4_entriesIn 16 = .ok (.iload_n 3, 1) := by decide +kernel
theorem dX4_entriesIn_17 : decode cX4_entriesIn 17 = .ok (.iadd, 1) := by decide +kernel
theorem dX4_entriesIn_18 : decode cX4_entriesIn 18 = .ok (.invokevirtual 51, 3) := by decide +kernel
theorem dX4_entriesIn_21 : decode cX4_entriesIn 21 = .ok (.ifCond .eq 7, 3) := by decide +kernel
theorem dX4_entriesIn_24 : decode cX4_entriesIn 24 = .ok (.iconst 0, 1) := by decide +kernel
theorem dX4_entriesIn_25 : decode cX4_entriesIn 25 = .ok (.goto 4, 3) := by decide +kernel
theorem dX4_entriesIn_28 : decode cX4_entriesIn 28 = .ok (.iconst 1, 1) := by decide +kernel
theorem dX4_entriesIn_29 : decode cX4_entriesIn 29 = .ok (.iadd, 1) := by decide +kernel
theorem dX4_entriesIn_30 : decode cX4_entriesIn 30 = .ok (.istore_n 2, 1) := by decide +kernel
theorem dX4_entriesIn_31 : decode cX4_entriesIn 31 = .ok (.iinc 3 1, 3) := by decide +kernel
theorem dX4_entriesIn_34 : decode cX4_entriesIn 34 = .ok (.goto (-30), 3) := by decide +kernel
theorem dX4_entriesIn_37 : decode cX4_entriesIn 37 = .ok (.iload_n 2, 1) := by decide +kernel
theorem dX4_entriesIn_38 : decode cX4_entriesIn 38 = .ok (.ireturn, 1) := by decide +kernel
theorem dX4_filter_0 : decode cX4_filter 0 = .ok (.aload_n 0, 1) := by decide +kernel
theorem dX4_filter_1 : decode cX4_filter 1 = .ok (.iload_n 1, 1) := by decide +kernel
theorem dX4_filter_2 : decode cX4_filter 2 = .ok (.invokevirtual 130, 3) := by decide +kernel
theorem dX4_filter_5 : decode cX4_filter 5 = .ok (.istore_n 3, 1) := by decide +kernel
theorem dX4_filter_6 : decode cX4_filter 6 = .ok (.iconst 0, 1) := by decide +kernel
theorem dX4_filter_7 : decode cX4_filter 7 = .ok (.istore 4, 2) := by decide +kernel
theorem dX4_filter_9 : decode cX4_filter 9 = .ok (.iconst 0, 1) := by decide +kernel
theorem dX4_filter_10 : decode cX4_filter 10 = .ok (.istore 5, 2) := by decide +kernel
theorem dX4_filter_12 : decode cX4_filter 12 = .ok (.iload 5, 2) := by decide +kernel
theorem dX4_filter_14 : decode cX4_filter 14 = .ok (.bipush 8, 2) := by decide +kernel
theorem dX4_filter_16 : decode cX4_filter 16 = .ok (.if_icmp .ge 167, 3) := by decide +kernel
theorem dX4_filter_19 : decode cX4_filter 19 = .ok (.iload_n 3, 1) := by decide +kernel
theorem dX4_filter_20 : decode cX4_filter 20 = .ok (.ifCond .le 163, 3) := by decide +kernel
theorem dX4_filter_23 : decode cX4_filter 23 = .ok (.iconst 0, 1) := by decide +kernel
theorem dX4_filter_24 : decode cX4_filter 24 = .ok (.istore 6, 2) := by decide +kernel
theorem dX4_filter_26 : decode cX4_filter 26 = .ok (.iconst 0, 1) := by decide +kernel
theorem dX4_filter_27 : decode cX4_filter 27 = .ok (.istore 7, 2) := by decide +kernel
theorem dX4_filter_29 : decode cX4_filter 29 = .ok (.bipush 8, 2) := by decide +kernel
theorem dX4_filter_31 : decode cX4_filter 31 = .ok (.iload_n 1, 1) := by decide +kernel
theorem dX4_filter_32 : decode cX4_filter 32 = .ok (.imul, 1) := by decide +kernel
theorem dX4_filter_33 : decode cX4_filter 33 = .ok (.istore 8, 2) := by decide +kernel
theorem dX4_filter_35 : decode cX4_filter 35 = .ok (.iload 8, 2) := by decide +kernel
theorem dX4_filter_37 : decode cX4_filter 37 = .ok (.bipush 8, 2) := by decide +kernel
theorem dX4_filter_39 : decode cX4_filter 39 = .ok (.iload_n 1, 1) := by decide +kernel
theorem dX4_filter_40 : decode cX4_filter 40 = .ok (.imul, 1) := by decide +kernel
theorem dX4_filter_41 : decode cX4_filter 41 = .ok (.bipush 8, 2) := by decide +kernel
theorem dX4_filter_43 : decode cX4_filter 43 = .ok (.iadd, 1) := by decide +kernel
theorem dX4_filter_44 : decode cX4_filter 44 = .ok (.if_icmp .ge 104, 3) := by decide +kernel
theorem dX4_filter_47 : decode cX4_filter 47 = .ok (.aload_n 0, 1) := by decide +kernel
theorem dX4_filter_48 : decode cX4_filter 48 = .ok (.iload 8, 2) := by decide +kernel
theorem dX4_filter_50 : decode cX4_filter 50 = .ok (.invokevirtual 51, 3) := by decide +kernel
theorem dX4_filter_53 : decode cX4_filter 53 = .ok (.ifCond .ne 23, 3) := by decide +kernel
theorem dX4_filter_56 : decode cX4_filter 56 = .ok (.aload_n 0, 1) := by decide +kernel
theorem dX4_filter_57 : decode cX4_filter 57 = .ok (.iload 8, 2) := by decide +kernel
theorem dX4_filter_59 : decode cX4_filter 59 = .ok (.iconst 2, 1) := by decide +kernel
theorem dX4_filter_60 : decode cX4_filter 60 = .ok (.invokevirtual 55, 3) := by decide +kernel
theorem dX4_filter_63 : decode cX4_filter 63 = .ok (.iload 5, 2) := by decide +kernel
theorem dX4_filter_65 : decode cX4_filter 65 = .ok (.ishr, 1) := by decide +kernel
theorem dX4_filter_66 : decode cX4_filter 66 = .ok (.iconst 1, 1) := by decide +kernel
theorem dX4_filter_67 : decode cX4_filter 67 = .ok (.iand, 1) := by decide +kernel
theorem dX4_filter_68 : decode cX4_filter 68 = .ok (.iconst 1, 1) := by decide +kernel
theorem dX4_filter_69 : decode cX4_filter 69 = .ok (.if_icmp .ne 7, 3) := by decide +kernel
theorem dX4_filter_72 : decode cX4_filter 72 = .ok (.iconst 1, 1) := by decide +kernel
theorem dX4_filter_73 : decode cX4_filter 73 = .ok (.goto 4, 3) := by decide +kernel
theorem dX4_filter_76 : decode cX4_filter 76 = .ok (.iconst 0, 1) := by decide +kernel
theorem dX4_filter_77 : decode cX4_filter 77 = .ok (.istore 9, 2) := by decide +kernel
theorem dX4_filter_79 : decode cX4_filter 79 = .ok (.aload_n 0, 1) := by decide +kernel
theorem dX4_filter_80 : decode cX4_filter 80 = .ok (.iload 8, 2) := by decide +kernel
theorem dX4_filter_82 : decode cX4_filter 82 = .ok (.iconst 3, 1) := by decide +kernel
theorem dX4_filter_83 : decode cX4_filter 83 = .ok (.invokevirtual 55, 3) := by decide +kernel
theorem dX4_filter_86 : decode cX4_filter 86 = .ok (.iload 5, 2) := by decide +kernel
theorem dX4_filter_88 : decode cX4_filter 88 = .ok (.ishr, 1) := by decide +kernel
theorem dX4_filter_89 : decode cX4_filter 89 = .ok (.iconst 1, 1) := by decide +kernel
theorem dX4_filter_90 : decode cX4_filter 90 = .ok (.iand, 1) := by decide +kernel
theorem dX4_filter_91 : decode cX4_filter 91 = .ok (.iconst 1, 1) := by decide +kernel
theorem dX4_filter_92 : decode cX4_filter 92 = .ok (.if_icmp .ne 7, 3) := by decide +kernel
theorem dX4_filter_95 : decode cX4_filter 95 = .ok (.iconst 1, 1) := by decide +kernel
theorem dX4_filter_96 : decode cX4_filter 96 = .ok (.goto 4, 3) := by decide +kernel
theorem dX4_filter_99 : decode cX4_filter 99 = .ok (.iconst 0, 1) := by decide +kernel
theorem dX4_filter_100 : decode cX4_filter 100 = .ok (.istore 10, 2) := by decide +kernel
theorem dX4_filter_102 : decode cX4_filter 102 = .ok (.iload 7, 2) := by decide +kernel
theorem dX4_filter_104 : decode cX4_filter 104 = .ok (.iload 9, 2) := by decide +kernel
theorem dX4_filter_106 : decode cX4_filter 106 = .ok (.ifCond .eq 12, 3) := by decide +kernel
theorem dX4_filter_109 : decode cX4_filter 109 = .ok (.iload 10, 2) := by decide +kernel
theorem dX4_filter_111 : decode cX4_filter 111 = .ok (.ifCond .eq 7, 3) := by decide +kernel
theorem dX4_filter_114 : decode cX4_filter 114 = .ok (.iconst 1, 1) := by decide +kernel
theorem dX4_filter_115 : decode cX4_filter 115 = .ok (.goto 4, 3) := by decide +kernel
theorem dX4_filter_118 : decode cX4_filter 118 = .ok (.iconst 0, 1) := by decide +kernel
theorem dX4_filter_119 : decode cX4_filter 119 = .ok (.iadd, 1) := by decide +kernel
theorem dX4_filter_120 : decode cX4_filter 120 = .ok (.istore 7, 2) := by decide +kernel
theorem dX4_filter_122 : decode cX4_filter 122 = .ok (.iload 6, 2) := by decide +kernel
theorem dX4_filter_124 : decode cX4_filter 124 = .ok (.iload 9, 2) := by decide +kernel
theorem dX4_filter_126 : decode cX4_filter 126 = .ok (.ifCond .eq 12, 3) := by decide +kernel
theorem dX4_filter_129 : decode cX4_filter 129 = .ok (.iload 10, 2) := by decide +kernel
theorem dX4_filter_131 : decode cX4_filter 131 = .ok (.ifCond .ne 7, 3) := by decide +kernel
theorem dX4_filter_134 : decode cX4_filter 134 = .ok (.iconst 1, 1) := by decide +kernel
theorem dX4_filter_135 : decode cX4_filter 135 = .ok (.goto 4, 3) := by decide +kernel
theorem dX4_filter_138 : decode cX4_filter 138 = .ok (.iconst 0, 1) := by decide +kernel
theorem dX4_filter_139 : decode cX4_filter 139 = .ok (.iadd, 1) := by decide +kernel
theorem dX4_filter_140 : decode cX4_filter 140 = .ok (.istore 6, 2) := by decide +kernel
theorem dX4_filter_142 : decode cX4_filter 142 = .ok (.iinc 8 1, 3) := by decide +kernel
theorem dX4_filter_145 : decode cX4_filter 145 = .ok (.goto (-110), 3) := by decide +kernel
theorem dX4_filter_148 : decode cX4_filter 148 = .ok (.iload 4, 2) := by decide +kernel
theorem dX4_filter_150 : decode cX4_filter 150 = .ok (.iload 7, 2) := by decide +kernel
theorem dX4_filter_152 : decode cX4_filter 152 = .ok (.iload_n 3, 1) := by decide +kernel
theorem dX4_filter_153 : decode cX4_filter 153 = .ok (.if_icmp .eq 13, 3) := by decide +kernel
theorem dX4_filter_156 : decode cX4_filter 156 = .ok (.iload_n 2, 1) := by decide +kernel
theorem dX4_filter_157 : decode cX4_filter 157 = .ok (.ifCond .ne 16, 3) := by decide +kernel
theorem dX4_filter_160 : decode cX4_filter 160 = .ok (.iload 6, 2) := by decide +kernel
theorem dX4_filter_162 : decode cX4_filter 162 = .ok (.iload_n 3, 1) := by decide +kernel
theorem dX4_filter_163 : decode cX4_filter 163 = .ok (.if_icmp .ne 10, 3) := by decide +kernel
theorem dX4_filter_166 : decode cX4_filter 166 = .ok (.iconst 1, 1) := by decide +kernel
theorem dX4_filter_167 : decode cX4_filter 167 = .ok (.iload 5, 2) := by decide +kernel
theorem dX4_filter_169 : decode cX4_filter 169 = .ok (.ishl, 1) := by decide +kernel
theorem dX4_filter_170 : decode cX4_filter 170 = .ok (.goto 4, 3) := by decide +kernel
theorem dX4_filter_173 : decode cX4_filter 173 = .ok (.iconst 0, 1) := by decide +kernel
theorem dX4_filter_174 : decode cX4_filter 174 = .ok (.ior, 1) := by decide +kernel
theorem dX4_filter_175 : decode cX4_filter 175 = .ok (.istore 4, 2) := by decide +kernel
theorem dX4_filter_177 : decode cX4_filter 177 = .ok (.iinc 5 1, 3) := by decide +kernel
theorem dX4_filter_180 : decode cX4_filter 180 = .ok (.goto (-168), 3) := by decide +kernel
theorem dX4_filter_183 : decode cX4_filter 183 = .ok (.iload 4, 2) := by decide +kernel
theorem dX4_filter_185 : decode cX4_filter 185 = .ok (.ireturn, 1) := by decide +kernel
theorem dX4_powerOf_0 : decode cX4_powerOf 0 = .ok (.iconst 0, 1) := by decide +kernel
theorem dX4_powerOf_1 : decode cX4_powerOf 1 = .ok (.istore_n 2, 1) := by decide +kernel
theorem dX4_powerOf_2 : decode cX4_powerOf 2 = .ok (.iconst 0, 1) := by decide +kernel
theorem dX4_powerOf_3 : decode cX4_powerOf 3 = .ok (.istore_n 3, 1) := by decide +kernel
theorem dX4_powerOf_4 : decode cX4_powerOf 4 = .ok (.iload_n 3, 1) := by decide +kernel
theorem dX4_powerOf_5 : decode cX4_powerOf 5 = .ok (.iconst 4, 1) := by decide +kernel
theorem dX4_powerOf_6 : decode cX4_powerOf 6 = .ok (.if_icmp .ge 38, 3) := by decide +kernel
theorem dX4_powerOf_9 : decode cX4_powerOf 9 = .ok (.iload_n 2, 1) := by decide +kernel
theorem dX4_powerOf_10 : decode cX4_powerOf 10 = .ok (.iload_n 1, 1) := by decide +kernel
theorem dX4_powerOf_11 : decode cX4_powerOf 11 = .ok (.aload_n 0, 1) := by decide +kernel
theorem dX4_powerOf_12 : decode cX4_powerOf 12 = .ok (.iload_n 3, 1) := by decide +kernel
theorem dX4_powerOf_13 : decode cX4_powerOf 13 = .ok (.iconst 0, 1) := by decide +kernel
theorem dX4_powerOf_14 : decode cX4_powerOf 14 = .ok (.invokevirtual 133, 3) := by decide +kernel
theorem dX4_powerOf_17 : decode cX4_powerOf 17 = .ok (.iand, 1) := by decide +kernel
theorem dX4_powerOf_18 : decode cX4_powerOf 18 = .ok (.aload_n 0, 1) := by decide +kernel
theorem dX4_powerOf_19 : decode cX4_powerOf 19 = .ok (.iload_n 3, 1) := by decide +kernel
theorem dX4_powerOf_20 : decode cX4_powerOf 20 = .ok (.iconst 1, 1) := by decide +kernel
theorem dX4_powerOf_21 : decode cX4_powerOf 21 = .ok (.invokevirtual 133, 3) := by decide +kernel
theorem dX4_powerOf_24 : decode cX4_powerOf 24 = .ok (.if_icmp .ne 11, 3) := by decide +kernel
theorem dX4_powerOf_27 : decode cX4_powerOf 27 = .ok (.aload_n 0, 1) := by decide +kernel
theorem dX4_powerOf_28 : decode cX4_powerOf 28 = .ok (.iload_n 3, 1) := by decide +kernel
theorem dX4_powerOf_29 : decode cX4_powerOf 29 = .ok (.invokevirtual 130, 3) := by decide +kernel
theorem dX4_powerOf_32 : decode cX4_powerOf 32 = .ok (.goto 4, 3) := by decide +kernel
theorem dX4_powerOf_35 : decode cX4_powerOf 35 = .ok (.iconst 0, 1) := by decide +kernel
theorem dX4_powerOf_36 : decode cX4_powerOf 36 = .ok (.iadd, 1) := by decide +kernel
theorem dX4_powerOf_37 : decode cX4_powerOf 37 = .ok (.istore_n 2, 1) := by decide +kernel
theorem dX4_powerOf_38 : decode cX4_powerOf 38 = .ok (.iinc 3 1, 3) := by decide +kernel
theorem dX4_powerOf_41 : decode cX4_powerOf 41 = .ok (.goto (-37), 3) := by decide +kernel
theorem dX4_powerOf_44 : decode cX4_powerOf 44 = .ok (.iload_n 2, 1) := by decide +kernel
theorem dX4_powerOf_45 : decode cX4_powerOf 45 = .ok (.ireturn, 1) := by decide +kernel
theorem dX4_search_0 : decode cX4_search 0 = .ok (.iload_n 1, 1) := by decide +kernel
theorem dX4_search_1 : decode cX4_search 1 = .ok (.invokestatic 79, 3) := by decide +kernel
theorem dX4_search_4 : decode cX4_search 4 = .ok (.ifCond .ne 6, 3) := by decide +kernel
theorem dX4_search_7 : decode cX4_search 7 = .ok (.bipush (-2), 2) := by decide +kernel
theorem dX4_search_9 : decode cX4_search 9 = .ok (.ireturn, 1) := by decide +kernel
theorem dX4_search_10 : decode cX4_search 10 = .ok (.aload_n 0, 1) := by decide +kernel
theorem dX4_search_11 : decode cX4_search 11 = .ok (.iload_n 1, 1) := by decide +kernel
theorem dX4_search_12 : decode cX4_search 12 = .ok (.invokevirtual 137, 3) := by decide +kernel
theorem dX4_search_15 : decode cX4_search 15 = .ok (.istore_n 2, 1) := by decide +kernel
theorem dX4_search_16 : decode cX4_search 16 = .ok (.iload_n 2, 1) := by decide +kernel
theorem dX4_search_17 : decode cX4_search 17 = .ok (.bipush 32, 2) := by decide +kernel
theorem dX4_search_19 : decode cX4_search 19 = .ok (.if_icmp .ne 6, 3) := by decide +kernel
theorem dX4_search_22 : decode cX4_search 22 = .ok (.bipush (-4), 2) := by decide +kernel
theorem dX4_search_24 : decode cX4_search 24 = .ok (.ireturn, 1) := by decide +kernel
theorem dX4_search_25 : decode cX4_search 25 = .ok (.aload_n 0, 1) := by decide +kernel
theorem dX4_search_26 : decode cX4_search 26 = .ok (.invokevirtual 48, 3) := by decide +kernel
theorem dX4_search_29 : decode cX4_search 29 = .ok (.aload_n 0, 1) := by decide +kernel
theorem dX4_search_30 : decode cX4_search 30 = .ok (.getfield 7, 3) := by decide +kernel
theorem dX4_search_33 : decode cX4_search 33 = .ok (.sipush 227, 3) := by decide +kernel
theorem dX4_search_36 : decode cX4_search 36 = .ok (.dup2, 1) := by decide +kernel
theorem dX4_search_37 : decode cX4_search 37 = .ok (.iaload, 1) := by decide +kernel
theorem dX4_search_38 : decode cX4_search 38 = .ok (.iconst 1, 1) := by decide +kernel
theorem dX4_search_39 : decode cX4_search 39 = .ok (.iadd, 1) := by decide +kernel
theorem dX4_search_40 : decode cX4_search 40 = .ok (.iastore, 1) := by decide +kernel
theorem dX4_search_41 : decode cX4_search 41 = .ok (.aload_n 0, 1) := by decide +kernel
theorem dX4_search_42 : decode cX4_search 42 = .ok (.getfield 7, 3) := by decide +kernel
theorem dX4_search_45 : decode cX4_search 45 = .ok (.sipush 228, 3) := by decide +kernel
theorem dX4_search_48 : decode cX4_search 48 = .ok (.dup2, 1) := by decide +kernel
theorem dX4_search_49 : decode cX4_search 49 = .ok (.iaload, 1) := by decide +kernel
theorem dX4_search_50 : decode cX4_search 50 = .ok (.aload_n 0, 1) := by decide +kernel
theorem dX4_search_51 : decode cX4_search 51 = .ok (.iload_n 1, 1) := by decide +kernel
theorem dX4_search_52 : decode cX4_search 52 = .ok (.invokevirtual 140, 3) := by decide +kernel
theorem dX4_search_55 : decode cX4_search 55 = .ok (.iadd, 1) := by decide +kernel
theorem dX4_search_56 : decode cX4_search 56 = .ok (.iastore, 1) := by decide +kernel
theorem dX4_search_57 : decode cX4_search 57 = .ok (.aload_n 0, 1) := by decide +kernel
theorem dX4_search_58 : decode cX4_search 58 = .ok (.getfield 7, 3) := by decide +kernel
theorem dX4_search_61 : decode cX4_search 61 = .ok (.bipush 7, 2) := by decide +kernel
theorem dX4_search_63 : decode cX4_search 63 = .ok (.aload_n 0, 1) := by decide +kernel
theorem dX4_search_64 : decode cX4_search 64 = .ok (.aload_n 0, 1) := by decide +kernel
theorem dX4_search_65 : decode cX4_search 65 = .ok (.iload_n 2, 1) := by decide +kernel
theorem dX4_search_66 : decode cX4_search 66 = .ok (.iconst 0, 1) := by decide +kernel
theorem dX4_search_67 : decode cX4_search 67 = .ok (.invokevirtual 55, 3) := by decide +kernel
theorem dX4_search_70 : decode cX4_search 70 = .ok (.iconst 1, 1) := by decide +kernel
theorem dX4_search_71 : decode cX4_search 71 = .ok (.isub, 1) := by decide +kernel
theorem dX4_search_72 : decode cX4_search 72 = .ok (.iconst 0, 1) := by decide +kernel
theorem dX4_search_73 : decode cX4_search 73 = .ok (.invokevirtual 109, 3) := by decide +kernel
theorem dX4_search_76 : decode cX4_search 76 = .ok (.imul, 1) := by decide +kernel
theorem dX4_search_77 : decode cX4_search 77 = .ok (.bipush 6, 2) := by decide +kernel
theorem dX4_search_79 : decode cX4_search 79 = .ok (.iadd, 1) := by decide +kernel
theorem dX4_search_80 : decode cX4_search 80 = .ok (.dup2, 1) := by decide +kernel
theorem dX4_search_81 : decode cX4_search 81 = .ok (.iaload, 1) := by decide +kernel
theorem dX4_search_82 : decode cX4_search 82 = .ok (.iconst 1, 1) := by decide +kernel
theorem dX4_search_83 : decode cX4_search 83 = .ok (.iadd, 1) := by decide +kernel
theorem dX4_search_84 : decode cX4_search 84 = .ok (.iastore, 1) := by decide +kernel
theorem dX4_search_85 : decode cX4_search 85 = .ok (.aload_n 0, 1) := by decide +kernel
theorem dX4_search_86 : decode cX4_search 86 = .ok (.iload_n 2, 1) := by decide +kernel
theorem dX4_search_87 : decode cX4_search 87 = .ok (.iconst 5, 1) := by decide +kernel
theorem dX4_search_88 : decode cX4_search 88 = .ok (.invokevirtual 55, 3) := by decide +kernel
theorem dX4_search_91 : decode cX4_search 91 = .ok (.ireturn, 1) := by decide +kernel
theorem dX4_find_0 : decode cX4_find 0 = .ok (.iload_n 1, 1) := by decide +kernel
theorem dX4_find_1 : decode cX4_find 1 = .ok (.invokestatic 79, 3) := by decide +kernel
theorem dX4_find_4 : decode cX4_find 4 = .ok (.ifCond .ne 6, 3) := by decide +kernel
theorem dX4_find_7 : decode cX4_find 7 = .ok (.bipush (-2), 2) := by decide +kernel
theorem dX4_find_9 : decode cX4_find 9 = .ok (.ireturn, 1) := by decide +kernel
theorem dX4_find_10 : decode cX4_find 10 = .ok (.aload_n 0, 1) := by decide +kernel
theorem dX4_find_11 : decode cX4_find 11 = .ok (.iload_n 1, 1) := by decide +kernel
theorem dX4_find_12 : decode cX4_find 12 = .ok (.invokevirtual 137, 3) := by decide +kernel
theorem dX4_find_15 : decode cX4_find 15 = .ok (.istore_n 2, 1) := by decide +kernel
theorem dX4_find_16 : decode cX4_find 16 = .ok (.iload_n 2, 1) := by decide +kernel
theorem dX4_find_17 : decode cX4_find 17 = .ok (.bipush 32, 2) := by decide +kernel
theorem dX4_find_19 : decode cX4_find 19 = .ok (.if_icmp .ne 8, 3) := by decide +kernel
theorem dX4_find_22 : decode cX4_find 22 = .ok (.bipush (-4), 2) := by decide +kernel
theorem dX4_find_24 : decode cX4_find 24 = .ok (.goto 11, 3) := by decide +kernel
theorem dX4_find_27 : decode cX4_find 27 = .ok (.aload_n 0, 1) := by decide +kernel
theorem dX4_find_28 : decode cX4_find 28 = .ok (.iload_n 2, 1) := by decide +kernel
theorem dX4_find_29 : decode cX4_find 29 = .ok (.iconst 0, 1) := by decide +kernel
theorem dX4_find_30 : decode cX4_find 30 = .ok (.invokevirtual 55, 3) := by decide +kernel
theorem dX4_find_33 : decode cX4_find 33 = .ok (.iconst 1, 1) := by decide +kernel
theorem dX4_find_34 : decode cX4_find 34 = .ok (.isub, 1) := by decide +kernel
theorem dX4_find_35 : decode cX4_find 35 = .ok (.ireturn, 1) := by decide +kernel
theorem dX4_power_0 : decode cX4_power 0 = .ok (.iload_n 1, 1) := by decide +kernel
theorem dX4_power_1 : decode cX4_power 1 = .ok (.invokestatic 79, 3) := by decide +kernel
theorem dX4_power_4 : decode cX4_power 4 = .ok (.ifCond .eq 11, 3) := by decide +kernel
theorem dX4_power_7 : decode cX4_power 7 = .ok (.aload_n 0, 1) := by decide +kernel
theorem dX4_power_8 : decode cX4_power 8 = .ok (.iload_n 1, 1) := by decide +kernel
theorem dX4_power_9 : decode cX4_power 9 = .ok (.invokevirtual 140, 3) := by decide +kernel
theorem dX4_power_12 : decode cX4_power 12 = .ok (.goto 5, 3) := by decide +kernel
theorem dX4_power_15 : decode cX4_power 15 = .ok (.bipush (-2), 2) := by decide +kernel
theorem dX4_power_17 : decode cX4_power 17 = .ok (.ireturn, 1) := by decide +kernel
theorem dX4_filterMask_0 : decode cX4_filterMask 0 = .ok (.iload_n 1, 1) := by decide +kernel
theorem dX4_filterMask_1 : decode cX4_filterMask 1 = .ok (.iconst 0, 1) := by decide +kernel
theorem dX4_filterMask_2 : decode cX4_filterMask 2 = .ok (.iconst 3, 1) := by decide +kernel
theorem dX4_filterMask_3 : decode cX4_filterMask 3 = .ok (.invokestatic 28, 3) := by decide +kernel
theorem dX4_filterMask_6 : decode cX4_filterMask 6 = .ok (.ifCond .eq 12, 3) := by decide +kernel
theorem dX4_filterMask_9 : decode cX4_filterMask 9 = .ok (.aload_n 0, 1) := by decide +kernel
theorem dX4_filterMask_10 : decode cX4_filterMask 10 = .ok (.iload_n 1, 1) := by decide +kernel
theorem dX4_filterMask_11 : decode cX4_filterMask 11 = .ok (.iconst 0, 1) := by decide +kernel
theorem dX4_filterMask_12 : decode cX4_filterMask 12 = .ok (.invokevirtual 133, 3) := by decide +kernel
theorem dX4_filterMask_15 : decode cX4_filterMask 15 = .ok (.goto 4, 3) := by decide +kernel
theorem dX4_filterMask_18 : decode cX4_filterMask 18 = .ok (.iconst (-1), 1) := by decide +kernel
theorem dX4_filterMask_19 : decode cX4_filterMask 19 = .ok (.ireturn, 1) := by decide +kernel
theorem dX4_filterValue_0 : decode cX4_filterValue 0 = .ok (.iload_n 1, 1) := by decide +kernel
theorem dX4_filterValue_1 : decode cX4_filterValue 1 = .ok (.iconst 0, 1) := by decide +kernel
theorem dX4_filterValue_2 : decode cX4_filterValue 2 = .ok (.iconst 3, 1) := by decide +kernel
theorem dX4_filterValue_3 : decode cX4_filterValue 3 = .ok (.invokestatic 28, 3) := by decide +kernel
theorem dX4_filterValue_6 : decode cX4_filterValue 6 = .ok (.ifCond .eq 12, 3) := by decide +kernel
theorem dX4_filterValue_9 : decode cX4_filterValue 9 = .ok (.aload_n 0, 1) := by decide +kernel
theorem dX4_filterValue_10 : decode cX4_filterValue 10 = .ok (.iload_n 1, 1) := by decide +kernel
theorem dX4_filterValue_11 : decode cX4_filterValue 11 = .ok (.iconst 1, 1) := by decide +kernel
theorem dX4_filterValue_12 : decode cX4_filterValue 12 = .ok (.invokevirtual 133, 3) := by decide +kernel
theorem dX4_filterValue_15 : decode cX4_filterValue 15 = .ok (.goto 4, 3) := by decide +kernel
theorem dX4_filterValue_18 : decode cX4_filterValue 18 = .ok (.iconst (-1), 1) := by decide +kernel
theorem dX4_filterValue_19 : decode cX4_filterValue 19 = .ok (.ireturn, 1) := by decide +kernel
theorem dX4_type_0 : decode cX4_type 0 = .ok (.aload_n 0, 1) := by decide +kernel
theorem dX4_type_1 : decode cX4_type 1 = .ok (.getfield 143, 3) := by decide +kernel
theorem dX4_type_4 : decode cX4_type 4 = .ok (.bipush 60, 2) := by decide +kernel
theorem dX4_type_6 : decode cX4_type 6 = .ok (.if_icmp .ne 6, 3) := by decide +kernel
theorem dX4_type_9 : decode cX4_type 9 = .ok (.bipush (-3), 2) := by decide +kernel
theorem dX4_type_11 : decode cX4_type 11 = .ok (.ireturn, 1) := by decide +kernel
theorem dX4_type_12 : decode cX4_type 12 = .ok (.aload_n 0, 1) := by decide +kernel
theorem dX4_type_13 : decode cX4_type 13 = .ok (.getfield 22, 3) := by decide +kernel
theorem dX4_type_16 : decode cX4_type 16 = .ok (.aload_n 0, 1) := by decide +kernel
theorem dX4_type_17 : decode cX4_type 17 = .ok (.getfield 143, 3) := by decide +kernel
theorem dX4_type_20 : decode cX4_type 20 = .ok (.iload_n 1, 1) := by decide +kernel
theorem dX4_type_21 : decode cX4_type 21 = .ok (.iastore, 1) := by decide +kernel
theorem dX4_type_22 : decode cX4_type 22 = .ok (.aload_n 0, 1) := by decide +kernel
theorem dX4_type_23 : decode cX4_type 23 = .ok (.dup, 1) := by decide +kernel
theorem dX4_type_24 : decode cX4_type 24 = .ok (.getfield 143, 3) := by decide +kernel
theorem dX4_type_27 : decode cX4_type 27 = .ok (.iconst 1, 1) := by decide +kernel
theorem dX4_type_28 : decode cX4_type 28 = .ok (.iadd, 1) := by decide +kernel
theorem dX4_type_29 : decode cX4_type 29 = .ok (.putfield 143, 3) := by decide +kernel
theorem dX4_type_32 : decode cX4_type 32 = .ok (.aload_n 0, 1) := by decide +kernel
theorem dX4_type_33 : decode cX4_type 33 = .ok (.getfield 143, 3) := by decide +kernel
theorem dX4_type_36 : decode cX4_type 36 = .ok (.ireturn, 1) := by decide +kernel
theorem dX4_clearText_0 : decode cX4_clearText 0 = .ok (.aload_n 0, 1) := by decide +kernel
theorem dX4_clearText_1 : decode cX4_clearText 1 = .ok (.getfield 143, 3) := by decide +kernel
theorem dX4_clearText_4 : decode cX4_clearText 4 = .ok (.istore_n 1, 1) := by decide +kernel
theorem dX4_clearText_5 : decode cX4_clearText 5 = .ok (.aload_n 0, 1) := by decide +kernel
theorem dX4_clearText_6 : decode cX4_clearText 6 = .ok (.iconst 0, 1) := by decide +kernel
theorem dX4_clearText_7 : decode cX4_clearText 7 = .ok (.putfield 143, 3) := by decide +kernel
theorem dX4_clearText_10 : decode cX4_clearText 10 = .ok (.iload_n 1, 1) := by decide +kernel
theorem dX4_clearText_11 : decode cX4_clearText 11 = .ok (.ireturn, 1) := by decide +kernel
theorem dX4_sees_0 : decode cX4_sees 0 = .ok (.aload_n 0, 1) := by decide +kernel
theorem dX4_sees_1 : decode cX4_sees 1 = .ok (.getfield 146, 3) := by decide +kernel
theorem dX4_sees_4 : decode cX4_sees 4 = .ok (.aload_n 0, 1) := by decide +kernel
theorem dX4_sees_5 : decode cX4_sees 5 = .ok (.getfield 143, 3) := by decide +kernel
theorem dX4_sees_8 : decode cX4_sees 8 = .ok (.if_icmp .ge 24, 3) := by decide +kernel
theorem dX4_sees_11 : decode cX4_sees 11 = .ok (.aload_n 0, 1) := by decide +kernel
theorem dX4_sees_12 : decode cX4_sees 12 = .ok (.getfield 22, 3) := by decide +kernel
theorem dX4_sees_15 : decode cX4_sees 15 = .ok (.aload_n 0, 1) := by decide +kernel
theorem dX4_sees_16 : decode cX4_sees 16 = .ok (.getfield 146, 3) := by decide +kernel
theorem dX4_sees_19 : decode cX4_sees 19 = .ok (.iaload, 1) := by decide +kernel
theorem dX4_sees_20 : decode cX4_sees 20 = .ok (.iload_n 1, 1) := by decide +kernel
theorem dX4_sees_21 : decode cX4_sees 21 = .ok (.iload_n 2, 1) := by decide +kernel
theorem dX4_sees_22 : decode cX4_sees 22 = .ok (.invokestatic 28, 3) := by decide +kernel
theorem dX4_sees_25 : decode cX4_sees 25 = .ok (.ifCond .eq 7, 3) := by decide +kernel
theorem dX4_sees_28 : decode cX4_sees 28 = .ok (.iconst 1, 1) := by decide +kernel
theorem dX4_sees_29 : decode cX4_sees 29 = .ok (.goto 4, 3) := by decide +kernel
theorem dX4_sees_32 : decode cX4_sees 32 = .ok (.iconst 0, 1) := by decide +kernel
theorem dX4_sees_33 : decode cX4_sees 33 = .ok (.ireturn, 1) := by decide +kernel
theorem dX4_takes_0 : decode cX4_takes 0 = .ok (.aload_n 0, 1) := by decide +kernel
theorem dX4_takes_1 : decode cX4_takes 1 = .ok (.iload_n 1, 1) := by decide +kernel
theorem dX4_takes_2 : decode cX4_takes 2 = .ok (.iload_n 1, 1) := by decide +kernel
theorem dX4_takes_3 : decode cX4_takes 3 = .ok (.invokevirtual 149, 3) := by decide +kernel
theorem dX4_takes_6 : decode cX4_takes 6 = .ok (.istore_n 2, 1) := by decide +kernel
theorem dX4_takes_7 : decode cX4_takes 7 = .ok (.aload_n 0, 1) := by decide +kernel
theorem dX4_takes_8 : decode cX4_takes 8 = .ok (.dup, 1) := by decide +kernel
theorem dX4_takes_9 : decode cX4_takes 9 = .ok (.getfield 146, 3) := by decide +kernel
theorem dX4_takes_12 : decode cX4_takes 12 = .ok (.iload_n 2, 1) := by decide +kernel
theorem dX4_takes_13 : decode cX4_takes 13 = .ok (.ifCond .eq 7, 3) := by decide +kernel
theorem dX4_takes_16 : decode cX4_takes 16 = .ok (.iconst 1, 1) := by decide +kernel
theorem dX4_takes_17 : decode cX4_takes 17 = .ok (.goto 4, 3) := by decide +kernel
theorem dX4_takes_20 : decode cX4_takes 20 = .ok (.iconst 0, 1) := by decide +kernel
theorem dX4_takes_21 : decode cX4_takes 21 = .ok (.iadd, 1) := by decide +kernel
theorem dX4_takes_22 : decode cX4_takes 22 = .ok (.putfield 146, 3) := by decide +kernel
theorem dX4_takes_25 : decode cX4_takes 25 = .ok (.iload_n 2, 1) := by decide +kernel
theorem dX4_takes_26 : decode cX4_takes 26 = .ok (.ireturn, 1) := by decide +kernel
theorem dX4_number_0 : decode cX4_number 0 = .ok (.iconst 0, 1) := by decide +kernel
theorem dX4_number_1 : decode cX4_number 1 = .ok (.istore_n 2, 1) := by decide +kernel
theorem dX4_number_2 : decode cX4_number 2 = .ok (.iconst 0, 1) := by decide +kernel
theorem dX4_number_3 : decode cX4_number 3 = .ok (.istore_n 3, 1) := by decide +kernel
theorem dX4_number_4 : decode cX4_number 4 = .ok (.iload_n 3, 1) := by decide +kernel
theorem dX4_number_5 : decode cX4_number 5 = .ok (.iload_n 1, 1) := by decide +kernel
theorem dX4_number_6 : decode cX4_number 6 = .ok (.if_icmp .ge 48, 3) := by decide +kernel
theorem dX4_number_9 : decode cX4_number 9 = .ok (.aload_n 0, 1) := by decide +kernel
theorem dX4_number_10 : decode cX4_number 10 = .ok (.bipush 48, 2) := by decide +kernel
theorem dX4_number_12 : decode cX4_number 12 = .ok (.bipush 57, 2) := by decide +kernel
theorem dX4_number_14 : decode cX4_number 14 = .ok (.invokevirtual 149, 3) := by decide +kernel
theorem dX4_number_17 : decode cX4_number 17 = .ok (.ifCond .eq 37, 3) := by decide +kernel
theorem dX4_number_20 : decode cX4_number 20 = .ok (.bipush 10, 2) := by decide +kernel
theorem dX4_number_22 : decode cX4_number 22 = .ok (.iload_n 2, 1) := by decide +kernel
theorem dX4_number_23 : decode cX4_number 23 = .ok (.imul, 1) := by decide +kernel
theorem dX4_number_24 : decode cX4_number 24 = .ok (.aload_n 0, 1) := by decide +kernel
theorem dX4_number_25 : decode cX4_number 25 = .ok (.getfield 22, 3) := by decide +kernel
theorem dX4_number_28 : decode cX4_number 28 = .ok (.aload_n 0, 1) := by decide +kernel
theorem dX4_number_29 : decode cX4_number 29 = .ok (.getfield 146, 3) := by decide +kernel
theorem dX4_number_32 : decode cX4_number 32 = .ok (.iaload, 1) := by decide +kernel
theorem dX4_number_33 : decode cX4_number 33 = .ok (.iadd, 1) := by decide +kernel
theorem dX4_number_34 : decode cX4_number 34 = .ok (.bipush 48, 2) := by decide +kernel
theorem dX4_number_36 : decode cX4_number 36 = .ok (.isub, 1) := by decide +kernel
theorem dX4_number_37 : decode cX4_number 37 = .ok (.istore_n 2, 1) := by decide +kernel
theorem dX4_number_38 : decode cX4_number 38 = .ok (.aload_n 0, 1) := by decide +kernel
theorem dX4_number_39 : decode cX4_number 39 = .ok (.dup, 1) := by decide +kernel
theorem dX4_number_40 : decode cX4_number 40 = .ok (.getfield 146, 3) := by decide +kernel
theorem dX4_number_43 : decode cX4_number 43 = .ok (.iconst 1, 1) := by decide +kernel
theorem dX4_number_44 : decode cX4_number 44 = .ok (.iadd, 1) := by decide +kernel
theorem dX4_number_45 : decode cX4_number 45 = .ok (.putfield 146, 3) := by decide +kernel
theorem dX4_number_48 : decode cX4_number 48 = .ok (.iinc 3 1, 3) := by decide +kernel
theorem dX4_number_51 : decode cX4_number 51 = .ok (.goto (-47), 3) := by decide +kernel
theorem dX4_number_54 : decode cX4_number 54 = .ok (.iload_n 3, 1) := by decide +kernel
theorem dX4_number_55 : decode cX4_number 55 = .ok (.ifCond .ne 7, 3) := by decide +kernel
theorem dX4_number_58 : decode cX4_number 58 = .ok (.iconst (-1), 1) := by decide +kernel
theorem dX4_number_59 : decode cX4_number 59 = .ok (.goto 4, 3) := by decide +kernel
theorem dX4_number_62 : decode cX4_number 62 = .ok (.iload_n 2, 1) := by decide +kernel
theorem dX4_number_63 : decode cX4_number 63 = .ok (.ireturn, 1) := by decide +kernel
theorem dX4_readRule_0 : decode cX4_readRule 0 = .ok (.iconst 0, 1) := by decide +kernel
theorem dX4_readRule_1 : decode cX4_readRule 1 = .ok (.istore_n 1, 1) := by decide +kernel
theorem dX4_readRule_2 : decode cX4_readRule 2 = .ok (.iconst 0, 1) := by decide +kernel
theorem dX4_readRule_3 : decode cX4_readRule 3 = .ok (.istore_n 2, 1) := by decide +kernel
theorem dX4_readRule_4 : decode cX4_readRule 4 = .ok (.bipush 7, 2) := by decide +kernel
theorem dX4_readRule_6 : decode cX4_readRule 6 = .ok (.istore_n 3, 1) := by decide +kernel
theorem dX4_readRule_7 : decode cX4_readRule 7 = .ok (.iload_n 3, 1) := by decide +kernel
theorem dX4_readRule_8 : decode cX4_readRule 8 = .ok (.ifCond .lt 102, 3) := by decide +kernel
theorem dX4_readRule_11 : decode cX4_readRule 11 = .ok (.aload_n 0, 1) := by decide +kernel
theorem dX4_readRule_12 : decode cX4_readRule 12 = .ok (.getfield 146, 3) := by decide +kernel
theorem dX4_readRule_15 : decode cX4_readRule 15 = .ok (.aload_n 0, 1) := by decide +kernel
theorem dX4_readRule_16 : decode cX4_readRule 16 = .ok (.getfield 143, 3) := by decide +kernel
theorem dX4_readRule_19 : decode cX4_readRule 19 = .ok (.if_icmp .ge 15, 3) := by decide +kernel
theorem dX4_readRule_22 : decode cX4_readRule 22 = .ok (.aload_n 0, 1) := by decide +kernel
theorem dX4_readRule_23 : decode cX4_readRule 23 = .ok (.getfield 22, 3) := by decide +kernel
theorem dX4_readRule_26 : decode cX4_readRule 26 = .ok (.aload_n 0, 1) := by decide +kernel
theorem dX4_readRule_27 : decode cX4_readRule 27 = .ok (.getfield 146, 3) := by decide +kernel
theorem dX4_readRule_30 : decode cX4_readRule 30 = .ok (.iaload, 1) := by decide +kernel
theorem dX4_readRule_31 : decode cX4_readRule 31 = .ok (.goto 4, 3) := by decide +kernel
theorem dX4_readRule_34 : decode cX4_readRule 34 = .ok (.iconst 0, 1) := by decide +kernel
theorem dX4_readRule_35 : decode cX4_readRule 35 = .ok (.istore 4, 2) := by decide +kernel
theorem dX4_readRule_37 : decode cX4_readRule 37 = .ok (.iload 4, 2) := by decide +kernel
theorem dX4_readRule_39 : decode cX4_readRule 39 = .ok (.bipush 48, 2) := by decide +kernel
theorem dX4_readRule_41 : decode cX4_readRule 41 = .ok (.if_icmp .eq 19, 3) := by decide +kernel
theorem dX4_readRule_44 : decode cX4_readRule 44 = .ok (.iload 4, 2) := by decide +kernel
theorem dX4_readRule_46 : decode cX4_readRule 46 = .ok (.bipush 49, 2) := by decide +kernel
theorem dX4_readRule_48 : decode cX4_readRule 48 = .ok (.if_icmp .eq 12, 3) := by decide +kernel
theorem dX4_readRule_51 : decode cX4_readRule 51 = .ok (.iload 4, 2) := by decide +kernel
theorem dX4_readRule_53 : decode cX4_readRule 53 = .ok (.bipush 42, 2) := by decide +kernel
theorem dX4_readRule_55 : decode cX4_readRule 55 = .ok (.if_icmp .eq 5, 3) := by decide +kernel
theorem dX4_readRule_58 : decode cX4_readRule 58 = .ok (.iconst 0, 1) := by decide +kernel
theorem dX4_readRule_59 : decode cX4_readRule 59 = .ok (.ireturn, 1) := by decide +kernel
theorem dX4_readRule_60 : decode cX4_readRule 60 = .ok (.iload_n 1, 1) := by decide +kernel
theorem dX4_readRule_61 : decode cX4_readRule 61 = .ok (.iload 4, 2) := by decide +kernel
theorem dX4_readRule_63 : decode cX4_readRule 63 = .ok (.bipush 49, 2) := by decide +kernel
theorem dX4_readRule_65 : decode cX4_readRule 65 = .ok (.if_icmp .ne 9, 3) := by decide +kernel
theorem dX4_readRule_68 : decode cX4_readRule 68 = .ok (.iconst 1, 1) := by decide +kernel
theorem dX4_readRule_69 : decode cX4_readRule 69 = .ok (.iload_n 3, 1) := by decide +kernel
theorem dX4_readRule_70 : decode cX4_readRule 70 = .ok (.ishl, 1) := by decide +kernel
theorem dX4_readRule_71 : decode cX4_readRule 71 = .ok (.goto 4, 3) := by decide +kernel
theorem dX4_readRule_74 : decode cX4_readRule 74 = .ok (.iconst 0, 1) := by decide +kernel
theorem dX4_readRule_75 : decode cX4_readRule 75 = .ok (.ior, 1) := by decide +kernel
theorem dX4_readRule_76 : decode cX4_readRule 76 = .ok (.istore_n 1, 1) := by decide +kernel
theorem dX4_readRule_77 : decode cX4_readRule 77 = .ok (.iload_n 2, 1) := by decide +kernel
theorem dX4_readRule_78 : decode cX4_readRule 78 = .ok (.iload 4, 2) := by decide +kernel
theorem dX4_readRule_80 : decode cX4_readRule 80 = .ok (.bipush 42, 2) := by decide +kernel
theorem dX4_readRule_82 : decode cX4_readRule 82 = .ok (.if_icmp .ne 7, 3) := by decide +kernel
theorem dX4_readRule_85 : decode cX4_readRule 85 = .ok (.iconst 0, 1) := by decide +kernel
theorem dX4_readRule_86 : decode cX4_readRule 86 = .ok (.goto 6, 3) := by decide +kernel
theorem dX4_readRule_89 : decode cX4_readRule 89 = .ok (.iconst 1, 1) := by decide +kernel
theorem dX4_readRule_90 : decode cX4_readRule 90 = .ok (.iload_n 3, 1) := by decide +kernel
theorem dX4_readRule_91 : decode cX4_readRule 91 = .ok (.ishl, 1) := by decide +kernel
theorem dX4_readRule_92 : decode cX4_readRule 92 = .ok (.ior, 1) := by decide +kernel
theorem dX4_readRule_93 : decode cX4_readRule 93 = .ok (.istore_n 2, 1) := by decide +kernel
theorem dX4_readRule_94 : decode cX4_readRule 94 = .ok (.aload_n 0, 1) := by decide +kernel
theorem dX4_readRule_95 : decode cX4_readRule 95 = .ok (.dup, 1) := by decide +kernel
theorem dX4_readRule_96 : decode cX4_readRule 96 = .ok (.getfield 146, 3) := by decide +kernel
theorem dX4_readRule_99 : decode cX4_readRule 99 = .ok (.iconst 1, 1) := by decide +kernel
theorem dX4_readRule_100 : decode cX4_readRule 100 = .ok (.iadd, 1) := by decide +kernel
theorem dX4_readRule_101 : decode cX4_readRule 101 = .ok (.putfield 146, 3) := by decide +kernel
theorem dX4_readRule_104 : decode cX4_readRule 104 = .ok (.iinc 3 (-1), 3) := by decide +kernel
theorem dX4_readRule_107 : decode cX4_readRule 107 = .ok (.goto (-100), 3) := by decide +kernel
theorem dX4_readRule_110 : decode cX4_readRule 110 = .ok (.aload_n 0, 1) := by decide +kernel
theorem dX4_readRule_111 : decode cX4_readRule 111 = .ok (.bipush 44, 2) := by decide +kernel
theorem dX4_readRule_113 : decode cX4_readRule 113 = .ok (.invokevirtual 152, 3) := by decide +kernel
theorem dX4_readRule_116 : decode cX4_readRule 116 = .ok (.ifCond .ne 5, 3) := by decide +kernel
theorem dX4_readRule_119 : decode cX4_readRule 119 = .ok (.iconst 0, 1) := by decide +kernel
theorem dX4_readRule_120 : decode cX4_readRule 120 = .ok (.ireturn, 1) := by decide +kernel
theorem dX4_readRule_121 : decode cX4_readRule 121 = .ok (.aload_n 0, 1) := by decide +kernel
theorem dX4_readRule_122 : decode cX4_readRule 122 = .ok (.iconst 2, 1) := by decide +kernel
theorem dX4_readRule_123 : decode cX4_readRule 123 = .ok (.invokevirtual 155, 3) := by decide +kernel
theorem dX4_readRule_126 : decode cX4_readRule 126 = .ok (.istore_n 3, 1) := by decide +kernel
theorem dX4_readRule_127 : decode cX4_readRule 127 = .ok (.iload_n 3, 1) := by decide +kernel
theorem dX4_readRule_128 : decode cX4_readRule 128 = .ok (.ifCond .lt 12, 3) := by decide +kernel
theorem dX4_readRule_131 : decode cX4_readRule 131 = .ok (.aload_n 0, 1) := by decide +kernel
theorem dX4_readRule_132 : decode cX4_readRule 132 = .ok (.bipush 44, 2) := by decide +kernel
theorem dX4_readRule_134 : decode cX4_readRule 134 = .ok (.invokevirtual 152, 3) := by decide +kernel
theorem dX4_readRule_137 : decode cX4_readRule 137 = .ok (.ifCond .ne 5, 3) := by decide +kernel
theorem dX4_readRule_140 : decode cX4_readRule 140 = .ok (.iconst 0, 1) := by decide +kernel
theorem dX4_readRule_141 : decode cX4_readRule 141 = .ok (.ireturn, 1) := by decide +kernel
theorem dX4_readRule_142 : decode cX4_readRule 142 = .ok (.aload_n 0, 1) := by decide +kernel
theorem dX4_readRule_143 : decode cX4_readRule 143 = .ok (.iconst 1, 1) := by decide +kernel
theorem dX4_readRule_144 : decode cX4_readRule 144 = .ok (.invokevirtual 155, 3) := by decide +kernel
theorem dX4_readRule_147 : decode cX4_readRule 147 = .ok (.istore 4, 2) := by decide +kernel
theorem dX4_readRule_149 : decode cX4_readRule 149 = .ok (.iload 4, 2) := by decide +kernel
theorem dX4_readRule_151 : decode cX4_readRule 151 = .ok (.ifCond .ge 5, 3) := by decide +kernel
theorem dX4_readRule_154 : decode cX4_readRule 154 = .ok (.iconst 0, 1) := by decide +kernel
theorem dX4_readRule_155 : decode cX4_readRule 155 = .ok (.ireturn, 1) := by decide +kernel
theorem dX4_readRule_156 : decode cX4_readRule 156 = .ok (.aload_n 0, 1) := by decide +kernel
theorem dX4_readRule_157 : decode cX4_readRule 157 = .ok (.getfield 25, 3) := by decide +kernel
theorem dX4_readRule_160 : decode cX4_readRule 160 = .ok (.iconst 4, 1) := by decide +kernel
theorem dX4_readRule_161 : decode cX4_readRule 161 = .ok (.aload_n 0, 1) := by decide +kernel
theorem dX4_readRule_162 : decode cX4_readRule 162 = .ok (.getfield 158, 3) := by decide +kernel
theorem dX4_readRule_165 : decode cX4_readRule 165 = .ok (.imul, 1) := by decide +kernel
theorem dX4_readRule_166 : decode cX4_readRule 166 = .ok (.iload_n 1, 1) := by decide +kernel
theorem dX4_readRule_167 : decode cX4_readRule 167 = .ok (.iastore, 1) := by decide +kernel
theorem dX4_readRule_168 : decode cX4_readRule 168 = .ok (.aload_n 0, 1) := by decide +kernel
theorem dX4_readRule_169 : decode cX4_readRule 169 = .ok (.getfield 25, 3) := by decide +kernel
theorem dX4_readRule_172 : decode cX4_readRule 172 = .ok (.iconst 4, 1) := by decide +kernel
theorem dX4_readRule_173 : decode cX4_readRule 173 = .ok (.aload_n 0, 1) := by decide +kernel
theorem dX4_readRule_174 : decode cX4_readRule 174 = .ok (.getfield 158, 3) := by decide +kernel
theorem dX4_readRule_177 : decode cX4_readRule 177 = .ok (.imul, 1) := by decide +kernel
theorem dX4_readRule_178 : decode cX4_readRule 178 = .ok (.iconst 1, 1) := by decide +kernel
theorem dX4_readRule_179 : decode cX4_readRule 179 = .ok (.iadd, 1) := by decide +kernel
theorem dX4_readRule_180 : decode cX4_readRule 180 = .ok (.iload_n 2, 1) := by decide +kernel
theorem dX4_readRule_181 : decode cX4_readRule 181 = .ok (.iastore, 1) := by decide +kernel
theorem dX4_readRule_182 : decode cX4_readRule 182 = .ok (.aload_n 0, 1) := by decide +kernel
theorem dX4_readRule_183 : decode cX4_readRule 183 = .ok (.getfield 25, 3) := by decide +kernel
theorem dX4_readRule_186 : decode cX4_readRule 186 = .ok (.iconst 4, 1) := by decide +kernel
theorem dX4_readRule_187 : decode cX4_readRule 187 = .ok (.aload_n 0, 1) := by decide +kernel
theorem dX4_readRule_188 : decode cX4_readRule 188 = .ok (.getfield 158, 3) := by decide +kernel
theorem dX4_readRule_191 : decode cX4_readRule 191 = .ok (.imul, 1) := by decide +kernel
theorem dX4_readRule_192 : decode cX4_readRule 192 = .ok (.iconst 2, 1) := by decide +kernel
theorem dX4_readRule_193 : decode cX4_readRule 193 = .ok (.iadd, 1) := by decide +kernel
theorem dX4_readRule_194 : decode cX4_readRule 194 = .ok (.iload_n 3, 1) := by decide +kernel
theorem dX4_readRule_195 : decode cX4_readRule 195 = .ok (.iastore, 1) := by decide +kernel
theorem dX4_readRule_196 : decode cX4_readRule 196 = .ok (.aload_n 0, 1) := by decide +kernel
theorem dX4_readRule_197 : decode cX4_readRule 197 = .ok (.getfield 25, 3) := by decide +kernel
theorem dX4_readRule_200 : decode cX4_readRule 200 = .ok (.iconst 4, 1) := by decide +kernel
theorem dX4_readRule_201 : decode cX4_readRule 201 = .ok (.aload_n 0, 1) := by decide +kernel
theorem dX4_readRule_202 : decode cX4_readRule 202 = .ok (.getfield 158, 3) := by decide +kernel
theorem dX4_readRule_205 : decode cX4_readRule 205 = .ok (.imul, 1) := by decide +kernel
theorem dX4_readRule_206 : decode cX4_readRule 206 = .ok (.iconst 3, 1) := by decide +kernel
theorem dX4_readRule_207 : decode cX4_readRule 207 = .ok (.iadd, 1) := by decide +kernel
theorem dX4_readRule_208 : decode cX4_readRule 208 = .ok (.iload 4, 2) := by decide +kernel
theorem dX4_readRule_210 : decode cX4_readRule 210 = .ok (.iastore, 1) := by decide +kernel
theorem dX4_readRule_211 : decode cX4_readRule 211 = .ok (.aload_n 0, 1) := by decide +kernel
theorem dX4_readRule_212 : decode cX4_readRule 212 = .ok (.dup, 1) := by decide +kernel
theorem dX4_readRule_213 : decode cX4_readRule 213 = .ok (.getfield 158, 3) := by decide +kernel
theorem dX4_readRule_216 : decode cX4_readRule 216 = .ok (.iconst 1, 1) := by decide +kernel
theorem dX4_readRule_217 : decode cX4_readRule 217 = .ok (.iadd, 1) := by decide +kernel
theorem dX4_readRule_218 : decode cX4_readRule 218 = .ok (.putfield 158, 3) := by decide +kernel
theorem dX4_readRule_221 : decode cX4_readRule 221 = .ok (.iconst 1, 1) := by decide +kernel
theorem dX4_readRule_222 : decode cX4_readRule 222 = .ok (.ireturn, 1) := by decide +kernel
theorem dX4_readText_0 : decode cX4_readText 0 = .ok (.aload_n 0, 1) := by decide +kernel
theorem dX4_readText_1 : decode cX4_readText 1 = .ok (.iconst 0, 1) := by decide +kernel
theorem dX4_readText_2 : decode cX4_readText 2 = .ok (.putfield 146, 3) := by decide +kernel
theorem dX4_readText_5 : decode cX4_readText 5 = .ok (.aload_n 0, 1) := by decide +kernel
theorem dX4_readText_6 : decode cX4_readText 6 = .ok (.iconst 0, 1) := by decide +kernel
theorem dX4_readText_7 : decode cX4_readText 7 = .ok (.putfield 158, 3) := by decide +kernel
theorem dX4_readText_10 : decode cX4_readText 10 = .ok (.aload_n 0, 1) := by decide +kernel
theorem dX4_readText_11 : decode cX4_readText 11 = .ok (.invokevirtual 161, 3) := by decide +kernel
theorem dX4_readText_14 : decode cX4_readText 14 = .ok (.istore_n 1, 1) := by decide +kernel
theorem dX4_readText_15 : decode cX4_readText 15 = .ok (.iload_n 1, 1) := by decide +kernel
theorem dX4_readText_16 : decode cX4_readText 16 = .ok (.ifCond .eq 39, 3) := by decide +kernel
theorem dX4_readText_19 : decode cX4_readText 19 = .ok (.aload_n 0, 1) := by decide +kernel
theorem dX4_readText_20 : decode cX4_readText 20 = .ok (.getfield 146, 3) := by decide +kernel
theorem dX4_readText_23 : decode cX4_readText 23 = .ok (.aload_n 0, 1) := by decide +kernel
theorem dX4_readText_24 : decode cX4_readText 24 = .ok (.getfield 143, 3) := by decide +kernel
theorem dX4_readText_27 : decode cX4_readText 27 = .ok (.if_icmp .ge 28, 3) := by decide +kernel
theorem dX4_readText_30 : decode cX4_readText 30 = .ok (.aload_n 0, 1) := by decide +kernel
theorem dX4_readText_31 : decode cX4_readText 31 = .ok (.bipush 59, 2) := by decide +kernel
theorem dX4_readText_33 : decode cX4_readText 33 = .ok (.invokevirtual 152, 3) := by decide +kernel
theorem dX4_readText_36 : decode cX4_readText 36 = .ok (.ifCond .eq 14, 3) := by decide +kernel
theorem dX4_readText_39 : decode cX4_readText 39 = .ok (.aload_n 0, 1) := by decide +kernel
theorem dX4_readText_40 : decode cX4_readText 40 = .ok (.invokevirtual 161, 3) := by decide +kernel
theorem dX4_readText_43 : decode cX4_readText 43 = .ok (.ifCond .eq 7, 3) := by decide +kernel
theorem dX4_readText_46 : decode cX4_readText 46 = .ok (.iconst 1, 1) := by decide +kernel
theorem dX4_readText_47 : decode cX4_readText 47 = .ok (.goto 4, 3) := by decide +kernel
theorem dX4_readText_50 : decode cX4_readText 50 = .ok (.iconst 0, 1) := by decide +kernel
theorem dX4_readText_51 : decode cX4_readText 51 = .ok (.istore_n 1, 1) := by decide +kernel
theorem dX4_readText_52 : decode cX4_readText 52 = .ok (.goto (-37), 3) := by decide +kernel
theorem dX4_readText_55 : decode cX4_readText 55 = .ok (.iload_n 1, 1) := by decide +kernel
theorem dX4_readText_56 : decode cX4_readText 56 = .ok (.ireturn, 1) := by decide +kernel
theorem dX4_addText_0 : decode cX4_addText 0 = .ok (.aload_n 0, 1) := by decide +kernel
theorem dX4_addText_1 : decode cX4_addText 1 = .ok (.invokevirtual 165, 3) := by decide +kernel
theorem dX4_addText_4 : decode cX4_addText 4 = .ok (.ifCond .ne 11, 3) := by decide +kernel
theorem dX4_addText_7 : decode cX4_addText 7 = .ok (.bipush (-100), 2) := by decide +kernel
theorem dX4_addText_9 : decode cX4_addText 9 = .ok (.aload_n 0, 1) := by decide +kernel
theorem dX4_addText_10 : decode cX4_addText 10 = .ok (.getfield 146, 3) := by decide +kernel
theorem dX4_addText_13 : decode cX4_addText 13 = .ok (.isub, 1) := by decide +kernel
theorem dX4_addText_14 : decode cX4_addText 14 = .ok (.ireturn, 1) := by decide +kernel
theorem dX4_addText_15 : decode cX4_addText 15 = .ok (.aload_n 0, 1) := by decide +kernel
theorem dX4_addText_16 : decode cX4_addText 16 = .ok (.invokevirtual 93, 3) := by decide +kernel
theorem dX4_addText_19 : decode cX4_addText 19 = .ok (.aload_n 0, 1) := by decide +kernel
theorem dX4_addText_20 : decode cX4_addText 20 = .ok (.getfield 158, 3) := by decide +kernel
theorem dX4_addText_23 : decode cX4_addText 23 = .ok (.if_icmp .ge 6, 3) := by decide +kernel
theorem dX4_addText_26 : decode cX4_addText 26 = .ok (.bipush (-3), 2) := by decide +kernel
theorem dX4_addText_28 : decode cX4_addText 28 = .ok (.ireturn, 1) := by decide +kernel
theorem dX4_addText_29 : decode cX4_addText 29 = .ok (.aload_n 0, 1) := by decide +kernel
theorem dX4_addText_30 : decode cX4_addText 30 = .ok (.invokevirtual 48, 3) := by decide +kernel
theorem dX4_addText_33 : decode cX4_addText 33 = .ok (.iconst 0, 1) := by decide +kernel
theorem dX4_addText_34 : decode cX4_addText 34 = .ok (.istore_n 1, 1) := by decide +kernel
theorem dX4_addText_35 : decode cX4_addText 35 = .ok (.iload_n 1, 1) := by decide +kernel
theorem dX4_addText_36 : decode cX4_addText 36 = .ok (.aload_n 0, 1) := by decide +kernel
theorem dX4_addText_37 : decode cX4_addText 37 = .ok (.getfield 158, 3) := by decide +kernel
theorem dX4_addText_40 : decode cX4_addText 40 = .ok (.if_icmp .ge 52, 3) := by decide +kernel
theorem dX4_addText_43 : decode cX4_addText 43 = .ok (.aload_n 0, 1) := by decide +kernel
theorem dX4_addText_44 : decode cX4_addText 44 = .ok (.aload_n 0, 1) := by decide +kernel
theorem dX4_addText_45 : decode cX4_addText 45 = .ok (.getfield 25, 3) := by decide +kernel
theorem dX4_addText_48 : decode cX4_addText 48 = .ok (.iconst 4, 1) := by decide +kernel
theorem dX4_addText_49 : decode cX4_addText 49 = .ok (.iload_n 1, 1) := by decide +kernel
theorem dX4_addText_50 : decode cX4_addText 50 = .ok (.imul, 1) := by decide +kernel
theorem dX4_addText_51 : decode cX4_addText 51 = .ok (.iaload, 1) := by decide +kernel
theorem dX4_addText_52 : decode cX4_addText 52 = .ok (.aload_n 0, 1) := by decide +kernel
theorem dX4_addText_53 : decode cX4_addText 53 = .ok (.getfield 25, 3) := by decide +kernel
theorem dX4_addText_56 : decode cX4_addText 56 = .ok (.iconst 4, 1) := by decide +kernel
theorem dX4_addText_57 : decode cX4_addText 57 = .ok (.iload_n 1, 1) := by decide +kernel
theorem dX4_addText_58 : decode cX4_addText 58 = .ok (.imul, 1) := by decide +kernel
theorem dX4_addText_59 : decode cX4_addText 59 = .ok (.iconst 1, 1) := by decide +kernel
theorem dX4_addText_60 : decode cX4_addText 60 = .ok (.iadd, 1) := by decide +kernel
theorem dX4_addText_61 : decode cX4_addText 61 = .ok (.iaload, 1) := by decide +kernel
theorem dX4_addText_62 : decode cX4_addText 62 = .ok (.aload_n 0, 1) := by decide +kernel
theorem dX4_addText_63 : decode cX4_addText 63 = .ok (.getfield 25, 3) := by decide +kernel
theorem dX4_addText_66 : decode cX4_addText 66 = .ok (.iconst 4, 1) := by decide +kernel
theorem dX4_addText_67 : decode cX4_addText 67 = .ok (.iload_n 1, 1) := by decide +kernel
theorem dX4_addText_68 : decode cX4_addText 68 = .ok (.imul, 1) := by decide +kernel
theorem dX4_addText_69 : decode cX4_addText 69 = .ok (.iconst 2, 1) := by decide +kernel
theorem dX4_addText_70 : decode cX4_addText 70 = .ok (.iadd, 1) := by decide +kernel
theorem dX4_addText_71 : decode cX4_addText 71 = .ok (.iaload, 1) := by decide +kernel
theorem dX4_addText_72 : decode cX4_addText 72 = .ok (.aload_n 0, 1) := by decide +kernel
theorem dX4_addText_73 : decode cX4_addText 73 = .ok (.getfield 25, 3) := by decide +kernel
theorem dX4_addText_76 : decode cX4_addText 76 = .ok (.iconst 4, 1) := by decide +kernel
theorem dX4_addText_77 : decode cX4_addText 77 = .ok (.iload_n 1, 1) := by decide +kernel
theorem dX4_addText_78 : decode cX4_addText 78 = .ok (.imul, 1) := by decide +kernel
theorem dX4_addText_79 : decode cX4_addText 79 = .ok (.iconst 3, 1) := by decide +kernel
theorem dX4_addText_80 : decode cX4_addText 80 = .ok (.iadd, 1) := by decide +kernel
theorem dX4_addText_81 : decode cX4_addText 81 = .ok (.iaload, 1) := by decide +kernel
theorem dX4_addText_82 : decode cX4_addText 82 = .ok (.invokevirtual 96, 3) := by decide +kernel
theorem dX4_addText_85 : decode cX4_addText 85 = .ok (.pop, 1) := by decide +kernel
theorem dX4_addText_86 : decode cX4_addText 86 = .ok (.iinc 1 1, 3) := by decide +kernel
theorem dX4_addText_89 : decode cX4_addText 89 = .ok (.goto (-54), 3) := by decide +kernel
theorem dX4_addText_92 : decode cX4_addText 92 = .ok (.aload_n 0, 1) := by decide +kernel
theorem dX4_addText_93 : decode cX4_addText 93 = .ok (.getfield 158, 3) := by decide +kernel
theorem dX4_addText_96 : decode cX4_addText 96 = .ok (.ireturn, 1) := by decide +kernel
theorem dX4_inSlot_0 : decode cX4_inSlot 0 = .ok (.iload_n 1, 1) := by decide +kernel
theorem dX4_inSlot_1 : decode cX4_inSlot 1 = .ok (.invokestatic 168, 3) := by decide +kernel
theorem dX4_inSlot_4 : decode cX4_inSlot 4 = .ok (.ifCond .ne 7, 3) := by decide +kernel
theorem dX4_inSlot_7 : decode cX4_inSlot 7 = .ok (.iconst (-1), 1) := by decide +kernel
theorem dX4_inSlot_8 : decode cX4_inSlot 8 = .ok (.goto 22, 3) := by decide +kernel
theorem dX4_inSlot_11 : decode cX4_inSlot 11 = .ok (.aload_n 0, 1) := by decide +kernel
theorem dX4_inSlot_12 : decode cX4_inSlot 12 = .ok (.iload_n 1, 1) := by decide +kernel
theorem dX4_inSlot_13 : decode cX4_inSlot 13 = .ok (.invokevirtual 51, 3) := by decide +kernel
theorem dX4_inSlot_16 : decode cX4_inSlot 16 = .ok (.ifCond .eq 8, 3) := by decide +kernel
theorem dX4_inSlot_19 : decode cX4_inSlot 19 = .ok (.bipush (-4), 2) := by decide +kernel
theorem dX4_inSlot_21 : decode cX4_inSlot 21 = .ok (.goto 9, 3) := by decide +kernel
theorem dX4_inSlot_24 : decode cX4_inSlot 24 = .ok (.aload_n 0, 1) := by decide +kernel
theorem dX4_inSlot_25 : decode cX4_inSlot 25 = .ok (.iload_n 1, 1) := by decide +kernel
theorem dX4_inSlot_26 : decode cX4_inSlot 26 = .ok (.iload_n 2, 1) := by decide +kernel
theorem dX4_inSlot_27 : decode cX4_inSlot 27 = .ok (.invokevirtual 55, 3) := by decide +kernel
theorem dX4_inSlot_30 : decode cX4_inSlot 30 = .ok (.ireturn, 1) := by decide +kernel
theorem dX4_ruleIn_0 : decode cX4_ruleIn 0 = .ok (.aload_n 0, 1) := by decide +kernel
theorem dX4_ruleIn_1 : decode cX4_ruleIn 1 = .ok (.iload_n 1, 1) := by decide +kernel
theorem dX4_ruleIn_2 : decode cX4_ruleIn 2 = .ok (.iconst 0, 1) := by decide +kernel
theorem dX4_ruleIn_3 : decode cX4_ruleIn 3 = .ok (.invokevirtual 171, 3) := by decide +kernel
theorem dX4_ruleIn_6 : decode cX4_ruleIn 6 = .ok (.istore_n 2, 1) := by decide +kernel
theorem dX4_ruleIn_7 : decode cX4_ruleIn 7 = .ok (.iload_n 2, 1) := by decide +kernel
theorem dX4_ruleIn_8 : decode cX4_ruleIn 8 = .ok (.ifCond .ge 7, 3) := by decide +kernel
theorem dX4_ruleIn_11 : decode cX4_ruleIn 11 = .ok (.iload_n 2, 1) := by decide +kernel
theorem dX4_ruleIn_12 : decode cX4_ruleIn 12 = .ok (.goto 6, 3) := by decide +kernel
theorem dX4_ruleIn_15 : decode cX4_ruleIn 15 = .ok (.iload_n 2, 1) := by decide +kernel
theorem dX4_ruleIn_16 : decode cX4_ruleIn 16 = .ok (.iconst 1, 1) := by decide +kernel
theorem dX4_ruleIn_17 : decode cX4_ruleIn 17 = .ok (.isub, 1) := by decide +kernel
theorem dX4_ruleIn_18 : decode cX4_ruleIn 18 = .ok (.ireturn, 1) := by decide +kernel
theorem dX4_maskIn_0 : decode cX4_maskIn 0 = .ok (.aload_n 0, 1) := by decide +kernel
theorem dX4_maskIn_1 : decode cX4_maskIn 1 = .ok (.iload_n 1, 1) := by decide +kernel
theorem dX4_maskIn_2 : decode cX4_maskIn 2 = .ok (.iconst 2, 1) := by decide +kernel
theorem dX4_maskIn_3 : decode cX4_maskIn 3 = .ok (.invokevirtual 171, 3) := by decide +kernel
theorem dX4_maskIn_6 : decode cX4_maskIn 6 = .ok (.ireturn, 1) := by decide +kernel
theorem dX4_valueIn_0 : decode cX4_valueIn 0 = .ok (.aload_n 0, 1) := by decide +kernel
theorem dX4_valueIn_1 : decode cX4_valueIn 1 = .ok (.iload_n 1, 1) := by decide +kernel
theorem dX4_valueIn_2 : decode cX4_valueIn 2 = .ok (.iconst 3, 1) := by decide +kernel
theorem dX4_valueIn_3 : decode cX4_valueIn 3 = .ok (.invokevirtual 171, 3) := by decide +kernel
theorem dX4_valueIn_6 : decode cX4_valueIn 6 = .ok (.ireturn, 1) := by decide +kernel
theorem dX4_sortIn_0 : decode cX4_sortIn 0 = .ok (.aload_n 0, 1) := by decide +kernel
theorem dX4_sortIn_1 : decode cX4_sortIn 1 = .ok (.iload_n 1, 1) := by decide +kernel
theorem dX4_sortIn_2 : decode cX4_sortIn 2 = .ok (.iconst 2, 1) := by decide +kernel
theorem dX4_sortIn_3 : decode cX4_sortIn 3 = .ok (.invokevirtual 171, 3) := by decide +kernel
theorem dX4_sortIn_6 : decode cX4_sortIn 6 = .ok (.istore_n 2, 1) := by decide +kernel
theorem dX4_sortIn_7 : decode cX4_sortIn 7 = .ok (.iload_n 2, 1) := by decide +kernel
theorem dX4_sortIn_8 : decode cX4_sortIn 8 = .ok (.ifCond .ge 5, 3) := by decide +kernel
theorem dX4_sortIn_11 : decode cX4_sortIn 11 = .ok (.iload_n 2, 1) := by decide +kernel
theorem dX4_sortIn_12 : decode cX4_sortIn 12 = .ok (.ireturn, 1) := by decide +kernel
theorem dX4_sortIn_13 : decode cX4_sortIn 13 = .ok (.sipush 255, 3) := by decide +kernel
theorem dX4_sortIn_16 : decode cX4_sortIn 16 = .ok (.iload_n 2, 1) := by decide +kernel
theorem dX4_sortIn_17 : decode cX4_sortIn 17 = .ok (.isub, 1) := by decide +kernel
theorem dX4_sortIn_18 : decode cX4_sortIn 18 = .ok (.istore_n 3, 1) := by decide +kernel
theorem dX4_sortIn_19 : decode cX4_sortIn 19 = .ok (.iload_n 3, 1) := by decide +kernel
theorem dX4_sortIn_20 : decode cX4_sortIn 20 = .ok (.ifCond .ne 7, 3) := by decide +kernel
theorem dX4_sortIn_23 : decode cX4_sortIn 23 = .ok (.iconst 0, 1) := by decide +kernel
theorem dX4_sortIn_24 : decode cX4_sortIn 24 = .ok (.goto 16, 3) := by decide +kernel
theorem dX4_sortIn_27 : decode cX4_sortIn 27 = .ok (.iload_n 3, 1) := by decide +kernel
theorem dX4_sortIn_28 : decode cX4_sortIn 28 = .ok (.iload_n 3, 1) := by decide +kernel
theorem dX4_sortIn_29 : decode cX4_sortIn 29 = .ok (.iconst 1, 1) := by decide +kernel
theorem dX4_sortIn_30 : decode cX4_sortIn 30 = .ok (.iadd, 1) := by decide +kernel
theorem dX4_sortIn_31 : decode cX4_sortIn 31 = .ok (.iand, 1) := by decide +kernel
theorem dX4_sortIn_32 : decode cX4_sortIn 32 = .ok (.ifCond .ne 7, 3) := by decide +kernel
theorem dX4_sortIn_35 : decode cX4_sortIn 35 = .ok (.iconst 1, 1) := by decide +kernel
theorem dX4_sortIn_36 : decode cX4_sortIn 36 = .ok (.goto 4, 3) := by decide +kernel
theorem dX4_sortIn_39 : decode cX4_sortIn 39 = .ok (.iconst 2, 1) := by decide +kernel
theorem dX4_sortIn_40 : decode cX4_sortIn 40 = .ok (.ireturn, 1) := by decide +kernel
theorem dX4_slotOf_0 : decode cX4_slotOf 0 = .ok (.aload_n 0, 1) := by decide +kernel
theorem dX4_slotOf_1 : decode cX4_slotOf 1 = .ok (.iload_n 1, 1) := by decide +kernel
theorem dX4_slotOf_2 : decode cX4_slotOf 2 = .ok (.iload_n 2, 1) := by decide +kernel
theorem dX4_slotOf_3 : decode cX4_slotOf 3 = .ok (.invokevirtual 109, 3) := by decide +kernel
theorem dX4_slotOf_6 : decode cX4_slotOf 6 = .ok (.istore_n 3, 1) := by decide +kernel
theorem dX4_slotOf_7 : decode cX4_slotOf 7 = .ok (.iload_n 3, 1) := by decide +kernel
theorem dX4_slotOf_8 : decode cX4_slotOf 8 = .ok (.bipush 32, 2) := by decide +kernel
theorem dX4_slotOf_10 : decode cX4_slotOf 10 = .ok (.if_icmp .ne 7, 3) := by decide +kernel
theorem dX4_slotOf_13 : decode cX4_slotOf 13 = .ok (.iconst (-1), 1) := by decide +kernel
theorem dX4_slotOf_14 : decode cX4_slotOf 14 = .ok (.goto 4, 3) := by decide +kernel
theorem dX4_slotOf_17 : decode cX4_slotOf 17 = .ok (.iload_n 3, 1) := by decide +kernel
theorem dX4_slotOf_18 : decode cX4_slotOf 18 = .ok (.ireturn, 1) := by decide +kernel
theorem dX4_parts_0 : decode cX4_parts 0 = .ok (.aload_n 0, 1) := by decide +kernel
theorem dX4_parts_1 : decode cX4_parts 1 = .ok (.iload_n 1, 1) := by decide +kernel
theorem dX4_parts_2 : decode cX4_parts 2 = .ok (.invokevirtual 112, 3) := by decide +kernel
theorem dX4_parts_5 : decode cX4_parts 5 = .ok (.ifCond .eq 11, 3) := by decide +kernel
theorem dX4_parts_8 : decode cX4_parts 8 = .ok (.aload_n 0, 1) := by decide +kernel
theorem dX4_parts_9 : decode cX4_parts 9 = .ok (.iload_n 1, 1) := by decide +kernel
theorem dX4_parts_10 : decode cX4_parts 10 = .ok (.invokevirtual 174, 3) := by decide +kernel
theorem dX4_parts_13 : decode cX4_parts 13 = .ok (.goto 4, 3) := by decide +kernel
theorem dX4_parts_16 : decode cX4_parts 16 = .ok (.iconst (-1), 1) := by decide +kernel
theorem dX4_parts_17 : decode cX4_parts 17 = .ok (.ireturn, 1) := by decide +kernel
theorem dX4_ofRule_0 : decode cX4_ofRule 0 = .ok (.aload_n 0, 1) := by decide +kernel
theorem dX4_ofRule_1 : decode cX4_ofRule 1 = .ok (.iload_n 1, 1) := by decide +kernel
theorem dX4_ofRule_2 : decode cX4_ofRule 2 = .ok (.invokevirtual 112, 3) := by decide +kernel
theorem dX4_ofRule_5 : decode cX4_ofRule 5 = .ok (.ifCond .eq 17, 3) := by decide +kernel
theorem dX4_ofRule_8 : decode cX4_ofRule 8 = .ok (.aload_n 0, 1) := by decide +kernel
theorem dX4_ofRule_9 : decode cX4_ofRule 9 = .ok (.aload_n 0, 1) := by decide +kernel
theorem dX4_ofRule_10 : decode cX4_ofRule 10 = .ok (.iload_n 1, 1) := by decide +kernel
theorem dX4_ofRule_11 : decode cX4_ofRule 11 = .ok (.iconst 0, 1) := by decide +kernel
theorem dX4_ofRule_12 : decode cX4_ofRule 12 = .ok (.invokevirtual 109, 3) := by decide +kernel
theorem dX4_ofRule_15 : decode cX4_ofRule 15 = .ok (.iload_n 2, 1) := by decide +kernel
theorem dX4_ofRule_16 : decode cX4_ofRule 16 = .ok (.invokevirtual 55, 3) := by decide +kernel
theorem dX4_ofRule_19 : decode cX4_ofRule 19 = .ok (.goto 4, 3) := by decide +kernel
theorem dX4_ofRule_22 : decode cX4_ofRule 22 = .ok (.iconst (-1), 1) := by decide +kernel
theorem dX4_ofRule_23 : decode cX4_ofRule 23 = .ok (.ireturn, 1) := by decide +kernel
theorem dX4_rank_0 : decode cX4_rank 0 = .ok (.aload_n 0, 1) := by decide +kernel
theorem dX4_rank_1 : decode cX4_rank 1 = .ok (.iload_n 1, 1) := by decide +kernel
theorem dX4_rank_2 : decode cX4_rank 2 = .ok (.iconst 4, 1) := by decide +kernel
theorem dX4_rank_3 : decode cX4_rank 3 = .ok (.invokevirtual 177, 3) := by decide +kernel
theorem dX4_rank_6 : decode cX4_rank 6 = .ok (.ireturn, 1) := by decide +kernel
theorem dX4_action_0 : decode cX4_action 0 = .ok (.aload_n 0, 1) := by decide +kernel
theorem dX4_action_1 : decode cX4_action 1 = .ok (.iload_n 1, 1) := by decide +kernel
theorem dX4_action_2 : decode cX4_action 2 = .ok (.iconst 5, 1) := by decide +kernel
theorem dX4_action_3 : decode cX4_action 3 = .ok (.invokevirtual 177, 3) := by decide +kernel
theorem dX4_action_6 : decode cX4_action 6 = .ok (.ireturn, 1) := by decide +kernel
theorem dX4_hits_0 : decode cX4_hits 0 = .ok (.aload_n 0, 1) := by decide +kernel
theorem dX4_hits_1 : decode cX4_hits 1 = .ok (.iload_n 1, 1) := by decide +kernel
theorem dX4_hits_2 : decode cX4_hits 2 = .ok (.bipush 6, 2) := by decide +kernel
theorem dX4_hits_4 : decode cX4_hits 4 = .ok (.invokevirtual 177, 3) := by decide +kernel
theorem dX4_hits_7 : decode cX4_hits 7 = .ok (.ireturn, 1) := by decide +kernel
theorem dX4_hides_0 : decode cX4_hides 0 = .ok (.aload_n 0, 1) := by decide +kernel
theorem dX4_hides_1 : decode cX4_hides 1 = .ok (.iload_n 1, 1) := by decide +kernel
theorem dX4_hides_2 : decode cX4_hides 2 = .ok (.invokevirtual 51, 3) := by decide +kernel
theorem dX4_hides_5 : decode cX4_hides 5 = .ok (.ifCond .ne 7, 3) := by decide +kernel
theorem dX4_hides_8 : decode cX4_hides 8 = .ok (.iconst 1, 1) := by decide +kernel
theorem dX4_hides_9 : decode cX4_hides 9 = .ok (.goto 4, 3) := by decide +kernel
theorem dX4_hides_12 : decode cX4_hides 12 = .ok (.iconst 0, 1) := by decide +kernel
theorem dX4_hides_13 : decode cX4_hides 13 = .ok (.istore_n 3, 1) := by decide +kernel
theorem dX4_hides_14 : decode cX4_hides 14 = .ok (.iconst 0, 1) := by decide +kernel
theorem dX4_hides_15 : decode cX4_hides 15 = .ok (.istore 4, 2) := by decide +kernel
theorem dX4_hides_17 : decode cX4_hides 17 = .ok (.iload 4, 2) := by decide +kernel
theorem dX4_hides_19 : decode cX4_hides 19 = .ok (.sipush 256, 3) := by decide +kernel
theorem dX4_hides_22 : decode cX4_hides 22 = .ok (.if_icmp .ge 39, 3) := by decide +kernel
theorem dX4_hides_25 : decode cX4_hides 25 = .ok (.iload_n 3, 1) := by decide +kernel
theorem dX4_hides_26 : decode cX4_hides 26 = .ok (.ifCond .eq 35, 3) := by decide +kernel
theorem dX4_hides_29 : decode cX4_hides 29 = .ok (.aload_n 0, 1) := by decide +kernel
theorem dX4_hides_30 : decode cX4_hides 30 = .ok (.iload_n 2, 1) := by decide +kernel
theorem dX4_hides_31 : decode cX4_hides 31 = .ok (.iload 4, 2) := by decide +kernel
theorem dX4_hides_33 : decode cX4_hides 33 = .ok (.invokevirtual 127, 3) := by decide +kernel
theorem dX4_hides_36 : decode cX4_hides 36 = .ok (.ifCond .eq 13, 3) := by decide +kernel
theorem dX4_hides_39 : decode cX4_hides 39 = .ok (.aload_n 0, 1) := by decide +kernel
theorem dX4_hides_40 : decode cX4_hides 40 = .ok (.iload_n 1, 1) := by decide +kernel
theorem dX4_hides_41 : decode cX4_hides 41 = .ok (.iload 4, 2) := by decide +kernel
theorem dX4_hides_43 : decode cX4_hides 43 = .ok (.invokevirtual 127, 3) := by decide +kernel
theorem dX4_hides_46 : decode cX4_hides 46 = .ok (.ifCond .eq 7, 3) := by decide +kernel
theorem dX4_hides_49 : decode cX4_hides 49 = .ok (.iconst 1, 1) := by decide +kernel
theorem dX4_hides_50 : decode cX4_hides 50 = .ok (.goto 4, 3) := by decide +kernel
theorem dX4_hides_53 : decode cX4_hides 53 = .ok (.iconst 0, 1) := by decide +kernel
theorem dX4_hides_54 : decode cX4_hides 54 = .ok (.istore_n 3, 1) := by decide +kernel
theorem dX4_hides_55 : decode cX4_hides 55 = .ok (.iinc 4 1, 3) := by decide +kernel
theorem dX4_hides_58 : decode cX4_hides 58 = .ok (.goto (-41), 3) := by decide +kernel
theorem dX4_hides_61 : decode cX4_hides 61 = .ok (.iload_n 3, 1) := by decide +kernel
theorem dX4_hides_62 : decode cX4_hides 62 = .ok (.ireturn, 1) := by decide +kernel
theorem dX4_hiddenBy_0 : decode cX4_hiddenBy 0 = .ok (.iload_n 1, 1) := by decide +kernel
theorem dX4_hiddenBy_1 : decode cX4_hiddenBy 1 = .ok (.invokestatic 168, 3) := by decide +kernel
theorem dX4_hiddenBy_4 : decode cX4_hiddenBy 4 = .ok (.ifCond .ne 5, 3) := by decide +kernel
theorem dX4_hiddenBy_7 : decode cX4_hiddenBy 7 = .ok (.iconst (-1), 1) := by decide +kernel
theorem dX4_hiddenBy_8 : decode cX4_hiddenBy 8 = .ok (.ireturn, 1) := by decide +kernel
theorem dX4_hiddenBy_9 : decode cX4_hiddenBy 9 = .ok (.iconst 0, 1) := by decide +kernel
theorem dX4_hiddenBy_10 : decode cX4_hiddenBy 10 = .ok (.istore_n 2, 1) := by decide +kernel
theorem dX4_hiddenBy_11 : decode cX4_hiddenBy 11 = .ok (.iload_n 2, 1) := by decide +kernel
theorem dX4_hiddenBy_12 : decode cX4_hiddenBy 12 = .ok (.iload_n 1, 1) := by decide +kernel
theorem dX4_hiddenBy_13 : decode cX4_hiddenBy 13 = .ok (.if_icmp .ge 28, 3) := by decide +kernel
theorem dX4_hiddenBy_16 : decode cX4_hiddenBy 16 = .ok (.aload_n 0, 1) := by decide +kernel
theorem dX4_hiddenBy_17 : decode cX4_hiddenBy 17 = .ok (.iload_n 1, 1) := by decide +kernel
theorem dX4_hiddenBy_18 : decode cX4_hiddenBy 18 = .ok (.invokevirtual 51, 3) := by decide +kernel
theorem dX4_hiddenBy_21 : decode cX4_hiddenBy 21 = .ok (.ifCond .ne 20, 3) := by decide +kernel
theorem dX4_hiddenBy_24 : decode cX4_hiddenBy 24 = .ok (.aload_n 0, 1) := by decide +kernel
theorem dX4_hiddenBy_25 : decode cX4_hiddenBy 25 = .ok (.iload_n 2, 1) := by decide +kernel
theorem dX4_hiddenBy_26 : decode cX4_hiddenBy 26 = .ok (.iload_n 1, 1) := by decide +kernel
theorem dX4_hiddenBy_27 : decode cX4_hiddenBy 27 = .ok (.invokevirtual 180, 3) := by decide +kernel
theorem dX4_hiddenBy_30 : decode cX4_hiddenBy 30 = .ok (.ifCond .eq 5, 3) := by decide +kernel
theorem dX4_hiddenBy_33 : decode cX4_hiddenBy 33 = .ok (.iload_n 2, 1) := by decide +kernel
theorem dX4_hiddenBy_34 : decode cX4_hiddenBy 34 = .ok (.ireturn, 1) := by decide +kernel
theorem dX4_hiddenBy_35 : decode cX4_hiddenBy 35 = .ok (.iinc 2 1, 3) := by decide +kernel
theorem dX4_hiddenBy_38 : decode cX4_hiddenBy 38 = .ok (.goto (-27), 3) := by decide +kernel
theorem dX4_hiddenBy_41 : decode cX4_hiddenBy 41 = .ok (.bipush (-4), 2) := by decide +kernel
theorem dX4_hiddenBy_43 : decode cX4_hiddenBy 43 = .ok (.ireturn, 1) := by decide +kernel
theorem dX4_keysWith_0 : decode cX4_keysWith 0 = .ok (.iconst 0, 1) := by decide +kernel
theorem dX4_keysWith_1 : decode cX4_keysWith 1 = .ok (.istore_n 2, 1) := by decide +kernel
theorem dX4_keysWith_2 : decode cX4_keysWith 2 = .ok (.iconst 0, 1) := by decide +kernel
theorem dX4_keysWith_3 : decode cX4_keysWith 3 = .ok (.istore_n 3, 1) := by decide +kernel
theorem dX4_keysWith_4 : decode cX4_keysWith 4 = .ok (.iload_n 3, 1) := by decide +kernel
theorem dX4_keysWith_5 : decode cX4_keysWith 5 = .ok (.sipush 256, 3) := by decide +kernel
theorem dX4_keysWith_8 : decode cX4_keysWith 8 = .ok (.if_icmp .ge 26, 3) := by decide +kernel
theorem dX4_keysWith_11 : decode cX4_keysWith 11 = .ok (.iload_n 2, 1) := by decide +kernel
theorem dX4_keysWith_12 : decode cX4_keysWith 12 = .ok (.aload_n 0, 1) := by decide +kernel
theorem dX4_keysWith_13 : decode cX4_keysWith 13 = .ok (.iload_n 3, 1) := by decide +kernel
theorem dX4_keysWith_14 : decode cX4_keysWith 14 = .ok (.invokevirtual 137, 3) := by decide +kernel
theorem dX4_keysWith_17 : decode cX4_keysWith 17 = .ok (.iload_n 1, 1) := by decide +kernel
theorem dX4_keysWith_18 : decode cX4_keysWith 18 = .ok (.if_icmp .ne 7, 3) := by decide +kernel
theorem dX4_keysWith_21 : decode cX4_keysWith 21 = .ok (.iconst 1, 1) := by decide +kernel
theorem dX4_keysWith_22 : decode cX4_keysWith 22 = .ok (.goto 4, 3) := by decide +kernel
theorem dX4_keysWith_25 : decode cX4_keysWith 25 = .ok (.iconst 0, 1) := by decide +kernel
theorem dX4_keysWith_26 : decode cX4_keysWith 26 = .ok (.iadd, 1) := by decide +kernel
theorem dX4_keysWith_27 : decode cX4_keysWith 27 = .ok (.istore_n 2, 1) := by decide +kernel
theorem dX4_keysWith_28 : decode cX4_keysWith 28 = .ok (.iinc 3 1, 3) := by decide +kernel
theorem dX4_keysWith_31 : decode cX4_keysWith 31 = .ok (.goto (-27), 3) := by decide +kernel
theorem dX4_keysWith_34 : decode cX4_keysWith 34 = .ok (.iload_n 2, 1) := by decide +kernel
theorem dX4_keysWith_35 : decode cX4_keysWith 35 = .ok (.ireturn, 1) := by decide +kernel
theorem dX4_keysFor_0 : decode cX4_keysFor 0 = .ok (.iload_n 1, 1) := by decide +kernel
theorem dX4_keysFor_1 : decode cX4_keysFor 1 = .ok (.invokestatic 168, 3) := by decide +kernel
theorem dX4_keysFor_4 : decode cX4_keysFor 4 = .ok (.ifCond .eq 11, 3) := by decide +kernel
theorem dX4_keysFor_7 : decode cX4_keysFor 7 = .ok (.aload_n 0, 1) := by decide +kernel
theorem dX4_keysFor_8 : decode cX4_keysFor 8 = .ok (.iload_n 1, 1) := by decide +kernel
theorem dX4_keysFor_9 : decode cX4_keysFor 9 = .ok (.invokevirtual 183, 3) := by decide +kernel
theorem dX4_keysFor_12 : decode cX4_keysFor 12 = .ok (.goto 4, 3) := by decide +kernel
theorem dX4_keysFor_15 : decode cX4_keysFor 15 = .ok (.iconst (-1), 1) := by decide +kernel
theorem dX4_keysFor_16 : decode cX4_keysFor 16 = .ok (.ireturn, 1) := by decide +kernel
theorem dX4_wouldMove_0 : decode cX4_wouldMove 0 = .ok (.iload_n 1, 1) := by decide +kernel
theorem dX4_wouldMove_1 : decode cX4_wouldMove 1 = .ok (.iconst 0, 1) := by decide +kernel
theorem dX4_wouldMove_2 : decode cX4_wouldMove 2 = .ok (.bipush 99, 2) := by decide +kernel
theorem dX4_wouldMove_4 : decode cX4_wouldMove 4 = .ok (.invokestatic 28, 3) := by decide +kernel
theorem dX4_wouldMove_7 : decode cX4_wouldMove 7 = .ok (.ifCond .ne 6, 3) := by decide +kernel
theorem dX4_wouldMove_10 : decode cX4_wouldMove 10 = .ok (.bipush (-2), 2) := by decide +kernel
theorem dX4_wouldMove_12 : decode cX4_wouldMove 12 = .ok (.ireturn, 1) := by decide +kernel
theorem dX4_wouldMove_13 : decode cX4_wouldMove 13 = .ok (.aload_n 0, 1) := by decide +kernel
theorem dX4_wouldMove_14 : decode cX4_wouldMove 14 = .ok (.invokevirtual 93, 3) := by decide +kernel
theorem dX4_wouldMove_17 : decode cX4_wouldMove 17 = .ok (.ifCond .ne 6, 3) := by decide +kernel
theorem dX4_wouldMove_20 : decode cX4_wouldMove 20 = .ok (.bipush (-3), 2) := by decide +kernel
theorem dX4_wouldMove_22 : decode cX4_wouldMove 22 = .ok (.ireturn, 1) := by decide +kernel
theorem dX4_wouldMove_23 : decode cX4_wouldMove 23 = .ok (.aload_n 0, 1) := by decide +kernel
theorem dX4_wouldMove_24 : decode cX4_wouldMove 24 = .ok (.iload_n 1, 1) := by decide +kernel
theorem dX4_wouldMove_25 : decode cX4_wouldMove 25 = .ok (.invokevirtual 72, 3) := by decide +kernel
theorem dX4_wouldMove_28 : decode cX4_wouldMove 28 = .ok (.istore_n 2, 1) := by decide +kernel
theorem dX4_wouldMove_29 : decode cX4_wouldMove 29 = .ok (.iload_n 2, 1) := by decide +kernel
theorem dX4_wouldMove_30 : decode cX4_wouldMove 30 = .ok (.ifCond .ge 9, 3) := by decide +kernel
theorem dX4_wouldMove_33 : decode cX4_wouldMove 33 = .ok (.iconst (-1), 1) := by decide +kernel
theorem dX4_wouldMove_34 : decode cX4_wouldMove 34 = .ok (.iload_n 2, 1) := by decide +kernel
theorem dX4_wouldMove_35 : decode cX4_wouldMove 35 = .ok (.isub, 1) := by decide +kernel
theorem dX4_wouldMove_36 : decode cX4_wouldMove 36 = .ok (.goto 4, 3) := by decide +kernel
theorem dX4_wouldMove_39 : decode cX4_wouldMove 39 = .ok (.iload_n 2, 1) := by decide +kernel
theorem dX4_wouldMove_40 : decode cX4_wouldMove 40 = .ok (.ireturn, 1) := by decide +kernel
theorem dX4_entriesFor_0 : decode cX4_entriesFor 0 = .ok (.iload_n 1, 1) := by decide +kernel
theorem dX4_entriesFor_1 : decode cX4_entriesFor 1 = .ok (.iload_n 2, 1) := by decide +kernel
theorem dX4_entriesFor_2 : decode cX4_entriesFor 2 = .ok (.invokestatic 103, 3) := by decide +kernel
theorem dX4_entriesFor_5 : decode cX4_entriesFor 5 = .ok (.ifCond .eq 11, 3) := by decide +kernel
theorem dX4_entriesFor_8 : decode cX4_entriesFor 8 = .ok (.iload_n 1, 1) := by decide +kernel
theorem dX4_entriesFor_9 : decode cX4_entriesFor 9 = .ok (.iload_n 2, 1) := by decide +kernel
theorem dX4_entriesFor_10 : decode cX4_entriesFor 10 = .ok (.invokestatic 106, 3) := by decide +kernel
theorem dX4_entriesFor_13 : decode cX4_entriesFor 13 = .ok (.goto 5, 3) := by decide +kernel
theorem dX4_entriesFor_16 : decode cX4_entriesFor 16 = .ok (.bipush (-2), 2) := by decide +kernel
theorem dX4_entriesFor_18 : decode cX4_entriesFor 18 = .ok (.ireturn, 1) := by decide +kernel
theorem dX4_rules_0 : decode cX4_rules 0 = .ok (.iconst 0, 1) := by decide +kernel
theorem dX4_rules_1 : decode cX4_rules 1 = .ok (.istore_n 1, 1) := by decide +kernel
theorem dX4_rules_2 : decode cX4_rules 2 = .ok (.iconst 0, 1) := by decide +kernel
theorem dX4_rules_3 : decode cX4_rules 3 = .ok (.istore_n 2, 1) := by decide +kernel
theorem dX4_rules_4 : decode cX4_rules 4 = .ok (.iload_n 2, 1) := by decide +kernel
theorem dX4_rules_5 : decode cX4_rules 5 = .ok (.bipush 32, 2) := by decide +kernel
theorem dX4_rules_7 : decode cX4_rules 7 = .ok (.if_icmp .ge 34, 3) := by decide +kernel
theorem dX4_rules_10 : decode cX4_rules 10 = .ok (.iload_n 1, 1) := by decide +kernel
theorem dX4_rules_11 : decode cX4_rules 11 = .ok (.aload_n 0, 1) := by decide +kernel
theorem dX4_rules_12 : decode cX4_rules 12 = .ok (.iload_n 2, 1) := by decide +kernel
theorem dX4_rules_13 : decode cX4_rules 13 = .ok (.invokevirtual 51, 3) := by decide +kernel
theorem dX4_rules_16 : decode cX4_rules 16 = .ok (.ifCond .ne 16, 3) := by decide +kernel
theorem dX4_rules_19 : decode cX4_rules 19 = .ok (.aload_n 0, 1) := by decide +kernel
theorem dX4_rules_20 : decode cX4_rules 20 = .ok (.iload_n 2, 1) := by decide +kernel
theorem dX4_rules_21 : decode cX4_rules 21 = .ok (.iconst 1, 1) := by decide +kernel
theorem dX4_rules_22 : decode cX4_rules 22 = .ok (.invokevirtual 55, 3) := by decide +kernel
theorem dX4_rules_25 : decode cX4_rules 25 = .ok (.ifCond .ne 7, 3) := by decide +kernel
theorem dX4_rules_28 : decode cX4_rules 28 = .ok (.iconst 1, 1) := by decide +kernel
theorem dX4_rules_29 : decode cX4_rules 29 = .ok (.goto 4, 3) := by decide +kernel
theorem dX4_rules_32 : decode cX4_rules 32 = .ok (.iconst 0, 1) := by decide +kernel
theorem dX4_rules_33 : decode cX4_rules 33 = .ok (.iadd, 1) := by decide +kernel
theorem dX4_rules_34 : decode cX4_rules 34 = .ok (.istore_n 1, 1) := by decide +kernel
theorem dX4_rules_35 : decode cX4_rules 35 = .ok (.iinc 2 1, 3) := by decide +kernel
theorem dX4_rules_38 : decode cX4_rules 38 = .ok (.goto (-34), 3) := by decide +kernel
theorem dX4_rules_41 : decode cX4_rules 41 = .ok (.iload_n 1, 1) := by decide +kernel
theorem dX4_rules_42 : decode cX4_rules 42 = .ok (.ireturn, 1) := by decide +kernel
theorem dX4_entriesWithoutKeys_0 : decode cX4_entriesWithoutKeys 0 = .ok (.iconst 0, 1) := by decide +kernel
theorem dX4_entriesWithoutKeys_1 : decode cX4_entriesWithoutKeys 1 = .ok (.istore_n 1, 1) := by decide +kernel
theorem dX4_entriesWithoutKeys_2 : decode cX4_entriesWithoutKeys 2 = .ok (.iconst 0, 1) := by decide +kernel
theorem dX4_entriesWithoutKeys_3 : decode cX4_entriesWithoutKeys 3 = .ok (.istore_n 2, 1) := by decide +kernel
theorem dX4_entriesWithoutKeys_4 : decode cX4_entriesWithoutKeys 4 = .ok (.iload_n 2, 1) := by decide +kernel
theorem dX4_entriesWithoutKeys_5 : decode cX4_entriesWithoutKeys 5 = .ok (.bipush 32, 2) := by decide +kernel
theorem dX4_entriesWithoutKeys_7 : decode cX4_entriesWithoutKeys 7 = .ok (.if_icmp .ge 33, 3) := by decide +kernel
theorem dX4_entriesWithoutKeys_10 : decode cX4_entriesWithoutKeys 10 = .ok (.iload_n 1, 1) := by decide +kernel
theorem dX4_entriesWithoutKeys_11 : decode cX4_entriesWithoutKeys 11 = .ok (.aload_n 0, 1) := by decide +kernel
theorem dX4_entriesWithoutKeys_12 : decode cX4_entriesWithoutKeys 12 = .ok (.iload_n 2, 1) := by decide +kernel
theorem dX4_entriesWithoutKeys_13 : decode cX4_entriesWithoutKeys 13 = .ok (.invokevirtual 51, 3) := by decide +kernel
theorem dX4_entriesWithoutKeys_16 : decode cX4_entriesWithoutKeys 16 = .ok (.ifCond .ne 15, 3) := by decide +kernel
theorem dX4_entriesWithoutKeys_19 : decode cX4_entriesWithoutKeys 19 = .ok (.aload_n 0, 1) := by decide +kernel
theorem dX4_entriesWithoutKeys_20 : decode cX4_entriesWithoutKeys 20 = .ok (.iload_n 2, 1) := by decide +kernel
theorem dX4_entriesWithoutKeys_21 : decode cX4_entriesWithoutKeys 21 = .ok (.invokevirtual 183, 3) := by decide +kernel
theorem dX4_entriesWithoutKeys_24 : decode cX4_entriesWithoutKeys 24 = .ok (.ifCond .ne 7, 3) := by decide +kernel
theorem dX4_entriesWithoutKeys_27 : decode cX4_entriesWithoutKeys 27 = .ok (.iconst 1, 1) := by decide +kernel
theorem dX4_entriesWithoutKeys_28 : decode cX4_entriesWithoutKeys 28 = .ok (.goto 4, 3) := by decide +kernel
theorem dX4_entriesWithoutKeys_31 : decode cX4_entriesWithoutKeys 31 = .ok (.iconst 0, 1) := by decide +kernel
theorem dX4_entriesWithoutKeys_32 : decode cX4_entriesWithoutKeys 32 = .ok (.iadd, 1) := by decide +kernel
theorem dX4_entriesWithoutKeys_33 : decode cX4_entriesWithoutKeys 33 = .ok (.istore_n 1, 1) := by decide +kernel
theorem dX4_entriesWithoutKeys_34 : decode cX4_entriesWithoutKeys 34 = .ok (.iinc 2 1, 3) := by decide +kernel
theorem dX4_entriesWithoutKeys_37 : decode cX4_entriesWithoutKeys 37 = .ok (.goto (-33), 3) := by decide +kernel
theorem dX4_entriesWithoutKeys_40 : decode cX4_entriesWithoutKeys 40 = .ok (.iload_n 1, 1) := by decide +kernel
theorem dX4_entriesWithoutKeys_41 : decode cX4_entriesWithoutKeys 41 = .ok (.ireturn, 1) := by decide +kernel
theorem dX4_total_0 : decode cX4_total 0 = .ok (.iload_n 1, 1) := by decide +kernel
theorem dX4_total_1 : decode cX4_total 1 = .ok (.tableswitch 136 0 10 #[59, 64, 69, 78, 87, 96, 105, 114, 119, 126, 131], 59) := by decide +kernel
theorem dX4_total_60 : decode cX4_total 60 = .ok (.aload_n 0, 1) := by decide +kernel
theorem dX4_total_61 : decode cX4_total 61 = .ok (.invokevirtual 44, 3) := by decide +kernel
theorem dX4_total_64 : decode cX4_total 64 = .ok (.ireturn, 1) := by decide +kernel
theorem dX4_total_65 : decode cX4_total 65 = .ok (.aload_n 0, 1) := by decide +kernel
theorem dX4_total_66 : decode cX4_total 66 = .ok (.invokevirtual 186, 3) := by decide +kernel
theorem dX4_total_69 : decode cX4_total 69 = .ok (.ireturn, 1) := by decide +kernel
theorem dX4_total_70 : decode cX4_total 70 = .ok (.aload_n 0, 1) := by decide +kernel
theorem dX4_total_71 : decode cX4_total 71 = .ok (.getfield 7, 3) := by decide +kernel
theorem dX4_total_74 : decode cX4_total 74 = .ok (.sipush 225, 3) := by decide +kernel
theorem dX4_total_77 : decode cX4_total 77 = .ok (.iaload, 1) := by decide +kernel
theorem dX4_total_78 : decode cX4_total 78 = .ok (.ireturn, 1) := by decide +kernel
theorem dX4_total_79 : decode cX4_total 79 = .ok (.aload_n 0, 1) := by decide +kernel
theorem dX4_total_80 : decode cX4_total 80 = .ok (.getfield 7, 3) := by decide +kernel
theorem dX4_total_83 : decode cX4_total 83 = .ok (.sipush 224, 3) := by decide +kernel
theorem dX4_total_86 : decode cX4_total 86 = .ok (.iaload, 1) := by decide +kernel
theorem dX4_total_87 : decode cX4_total 87 = .ok (.ireturn, 1) := by decide +kernel
theorem dX4_total_88 : decode cX4_total 88 = .ok (.aload_n 0, 1) := by decide +kernel
theorem dX4_total_89 : decode cX4_total 89 = .ok (.getfield 7, 3) := by decide +kernel
theorem dX4_total_92 : decode cX4_total 92 = .ok (.sipush 226, 3) := by decide +kernel
theorem dX4_total_95 : decode cX4_total 95 = .ok (.iaload, 1) := by decide +kernel
theorem dX4_total_96 : decode cX4_total 96 = .ok (.ireturn, 1) := by decide +kernel
theorem dX4_total_97 : decode cX4_total 97 = .ok (.aload_n 0, 1) := by decide +kernel
theorem dX4_total_98 : decode cX4_total 98 = .ok (.getfield 7, 3) := by decide +kernel
theorem dX4_total_101 : decode cX4_total 101 = .ok (.sipush 227, 3) := by decide +kernel
theorem dX4_total_104 : decode cX4_total 104 = .ok (.iaload, 1) := by decide +kernel
theorem dX4_total_105 : decode cX4_total 105 = .ok (.ireturn, 1) := by decide +kernel
theorem dX4_total_106 : decode cX4_total 106 = .ok (.aload_n 0, 1) := by decide +kernel
theorem dX4_total_107 : decode cX4_total 107 = .ok (.getfield 7, 3) := by decide +kernel
theorem dX4_total_110 : decode cX4_total 110 = .ok (.sipush 228, 3) := by decide +kernel
theorem dX4_total_113 : decode cX4_total 113 = .ok (.iaload, 1) := by decide +kernel
theorem dX4_total_114 : decode cX4_total 114 = .ok (.ireturn, 1) := by decide +kernel
theorem dX4_total_115 : decode cX4_total 115 = .ok (.aload_n 0, 1) := by decide +kernel
theorem dX4_total_116 : decode cX4_total 116 = .ok (.invokevirtual 189, 3) := by decide +kernel
theorem dX4_total_119 : decode cX4_total 119 = .ok (.ireturn, 1) := by decide +kernel
theorem dX4_total_120 : decode cX4_total 120 = .ok (.aload_n 0, 1) := by decide +kernel
theorem dX4_total_121 : decode cX4_total 121 = .ok (.bipush 32, 2) := by decide +kernel
theorem dX4_total_123 : decode cX4_total 123 = .ok (.invokevirtual 183, 3) := by decide +kernel
theorem dX4_total_126 : decode cX4_total 126 = .ok (.ireturn, 1) := by decide +kernel
theorem dX4_total_127 : decode cX4_total 127 = .ok (.aload_n 0, 1) := by decide +kernel
theorem dX4_total_128 : decode cX4_total 128 = .ok (.getfield 32, 3) := by decide +kernel
theorem dX4_total_131 : decode cX4_total 131 = .ok (.ireturn, 1) := by decide +kernel
theorem dX4_total_132 : decode cX4_total 132 = .ok (.aload_n 0, 1) := by decide +kernel
theorem dX4_total_133 : decode cX4_total 133 = .ok (.getfield 143, 3) := by decide +kernel
theorem dX4_total_136 : decode cX4_total 136 = .ok (.ireturn, 1) := by decide +kernel
theorem dX4_total_137 : decode cX4_total 137 = .ok (.bipush (-2), 2) := by decide +kernel
theorem dX4_total_139 : decode cX4_total 139 = .ok (.ireturn, 1) := by decide +kernel
end
section
theorem dL_law_0 : decode cL_law 0 = .ok (.new 7, 3) := by decide +kernel
theorem dL_law_3 : decode cL_law 3 = .ok (.dup, 1) := by decide +kernel
theorem dL_law_4 : decode cL_law 4 = .ok (.invokespecial 9, 3) := by decide +kernel
theorem dL_law_7 : decode cL_law 7 = .ok (.astore_n 1, 1) := by decide +kernel
theorem dL_law_8 : decode cL_law 8 = .ok (.new 10, 3) := by decide +kernel
theorem dL_law_11 : decode cL_law 11 = .ok (.dup, 1) := by decide +kernel
theorem dL_law_12 : decode cL_law 12 = .ok (.invokespecial 12, 3) := by decide +kernel
theorem dL_law_15 : decode cL_law 15 = .ok (.astore_n 2, 1) := by decide +kernel
theorem dL_law_16 : decode cL_law 16 = .ok (.iconst 0, 1) := by decide +kernel
theorem dL_law_17 : decode cL_law 17 = .ok (.istore_n 3, 1) := by decide +kernel
theorem dL_law_18 : decode cL_law 18 = .ok (.iload_n 3, 1) := by decide +kernel
theorem dL_law_19 : decode cL_law 19 = .ok (.aload_n 0, 1) := by decide +kernel
theorem dL_law_20 : decode cL_law 20 = .ok (.arraylength, 1) := by decide +kernel
theorem dL_law_21 : decode cL_law 21 = .ok (.iconst 5, 1) := by decide +kernel
theorem dL_law_22 : decode cL_law 22 = .ok (.isub, 1) := by decide +kernel
theorem dL_law_23 : decode cL_law 23 = .ok (.if_icmp .gt 880, 3) := by decide +kernel
theorem dL_law_26 : decode cL_law 26 = .ok (.aload_n 0, 1) := by decide +kernel
theorem dL_law_27 : decode cL_law 27 = .ok (.iload_n 3, 1) := by decide +kernel
theorem dL_law_28 : decode cL_law 28 = .ok (.iaload, 1) := by decide +kernel
theorem dL_law_29 : decode cL_law 29 = .ok (.bipush 31, 2) := by decide +kernel
theorem dL_law_31 : decode cL_law 31 = .ok (.iand, 1) := by decide +kernel
theorem dL_law_32 : decode cL_law 32 = .ok (.tableswitch 865 0 30 #[140, 193, 246, 269, 292, 305, 318, 341, 366, 379, 392, 405, 418, 431, 454, 477, 500, 523, 556, 579, 602, 625, 648, 671, 694, 717, 740, 763, 786, 809, 842], 140) := by decide +kernel
theorem dL_law_172 : decode cL_law 172 = .ok (.aload_n 1, 1) := by decide +kernel
theorem dL_law_173 : decode cL_law 173 = .ok (.aload_n 0, 1) := by decide +kernel
theorem dL_law_174 : decode cL_law 174 = .ok (.iload_n 3, 1) := by decide +kernel
theorem dL_law_175 : decode cL_law 175 = .ok (.iconst 1, 1) := by decide +kernel
theorem dL_law_176 : decode cL_law 176 = .ok (.iadd, 1) := by decide +kernel
theorem dL_law_177 : decode cL_law 177 = .ok (.iaload, 1) := by decide +kernel
theorem dL_law_178 : decode cL_law 178 = .ok (.aload_n 0, 1) := by decide +kernel
theorem dL_law_179 : decode cL_law 179 = .ok (.iload_n 3, 1) := by decide +kernel
theorem dL_law_180 : decode cL_law 180 = .ok (.iconst 2, 1) := by decide +kernel
theorem dL_law_181 : decode cL_law 181 = .ok (.iadd, 1) := by decide +kernel
theorem dL_law_182 : decode cL_law 182 = .ok (.iaload, 1) := by decide +kernel
theorem dL_law_183 : decode cL_law 183 = .ok (.aload_n 0, 1) := by decide +kernel
theorem dL_law_184 : decode cL_law 184 = .ok (.iload_n 3, 1) := by decide +kernel
theorem dL_law_185 : decode cL_law 185 = .ok (.iconst 3, 1) := by decide +kernel
theorem dL_law_186 : decode cL_law 186 = .ok (.iadd, 1) := by decide +kernel
theorem dL_law_187 : decode cL_law 187 = .ok (.iaload, 1) := by decide +kernel
theorem dL_law_188 : decode cL_law 188 = .ok (.aload_n 0, 1) := by decide +kernel
theorem dL_law_189 : decode cL_law 189 = .ok (.iload_n 3, 1) := by decide +kernel
theorem dL_law_190 : decode cL_law 190 = .ok (.iconst 4, 1) := by decide +kernel
theorem dL_law_191 : decode cL_law 191 = .ok (.iadd, 1) := by decide +kernel
theorem dL_law_192 : decode cL_law 192 = .ok (.iaload, 1) := by decide +kernel
theorem dL_law_193 : decode cL_law 193 = .ok (.invokevirtual 13, 3) := by decide +kernel
theorem dL_law_196 : decode cL_law 196 = .ok (.aload_n 2, 1) := by decide +kernel
theorem dL_law_197 : decode cL_law 197 = .ok (.aload_n 0, 1) := by decide +kernel
theorem dL_law_198 : decode cL_law 198 = .ok (.iload_n 3, 1) := by decide +kernel
theorem dL_law_199 : decode cL_law 199 = .ok (.iconst 1, 1) := by decide +kernel
theorem dL_law_200 : decode cL_law 200 = .ok (.iadd, 1) := by decide +kernel
theorem dL_law_201 : decode cL_law 201 = .ok (.iaload, 1) := by decide +kernel
theorem dL_law_202 : decode cL_law 202 = .ok (.aload_n 0, 1) := by decide +kernel
theorem dL_law_203 : decode cL_law 203 = .ok (.iload_n 3, 1) := by decide +kernel
theorem dL_law_204 : decode cL_law 204 = .ok (.iconst 2, 1) := by decide +kernel
theorem dL_law_205 : decode cL_law 205 = .ok (.iadd, 1) := by decide +kernel
theorem dL_law_206 : decode cL_law 206 = .ok (.iaload, 1) := by decide +kernel
theorem dL_law_207 : decode cL_law 207 = .ok (.aload_n 0, 1) := by decide +kernel
theorem dL_law_208 : decode cL_law 208 = .ok (.iload_n 3, 1) := by decide +kernel
theorem dL_law_209 : decode cL_law 209 = .ok (.iconst 3, 1) := by decide +kernel
theorem dL_law_210 : decode cL_law 210 = .ok (.iadd, 1) := by decide +kernel
theorem dL_law_211 : decode cL_law 211 = .ok (.iaload, 1) := by decide +kernel
theorem dL_law_212 : decode cL_law 212 = .ok (.aload_n 0, 1) := by decide +kernel
theorem dL_law_213 : decode cL_law 213 = .ok (.iload_n 3, 1) := by decide +kernel
theorem dL_law_214 : decode cL_law 214 = .ok (.iconst 4, 1) := by decide +kernel
theorem dL_law_215 : decode cL_law 215 = .ok (.iadd, 1) := by decide +kernel
theorem dL_law_216 : decode cL_law 216 = .ok (.iaload, 1) := by decide +kernel
theorem dL_law_217 : decode cL_law 217 = .ok (.invokevirtual 17, 3) := by decide +kernel
theorem dL_law_220 : decode cL_law 220 = .ok (.if_icmp .eq 677, 3) := by decide +kernel
theorem dL_law_223 : decode cL_law 223 = .ok (.iconst 0, 1) := by decide +kernel
theorem dL_law_224 : decode cL_law 224 = .ok (.ireturn, 1) := by decide +kernel
theorem dL_law_225 : decode cL_law 225 = .ok (.aload_n 1, 1) := by decide +kernel
theorem dL_law_226 : decode cL_law 226 = .ok (.aload_n 0, 1) := by decide +kernel
theorem dL_law_227 : decode cL_law 227 = .ok (.iload_n 3, 1) := by decide +kernel
theorem dL_law_228 : decode cL_law 228 = .ok (.iconst 1, 1) := by decide +kernel
theorem dL_law_229 : decode cL_law 229 = .ok (.iadd, 1) := by decide +kernel
theorem dL_law_230 : decode cL_law 230 = .ok (.iaload, 1) := by decide +kernel
theorem dL_law_231 : decode cL_law 231 = .ok (.aload_n 0, 1) := by decide +kernel
theorem dL_law_232 : decode cL_law 232 = .ok (.iload_n 3, 1) := by decide +kernel
theorem dL_law_233 : decode cL_law 233 = .ok (.iconst 2, 1) := by decide +kernel
theorem dL_law_234 : decode cL_law 234 = .ok (.iadd, 1) := by decide +kernel
theorem dL_law_235 : decode cL_law 235 = .ok (.iaload, 1) := by decide +kernel
theorem dL_law_236 : decode cL_law 236 = .ok (.aload_n 0, 1) := by decide +kernel
theorem dL_law_237 : decode cL_law 237 = .ok (.iload_n 3, 1) := by decide +kernel
theorem dL_law_238 : decode cL_law 238 = .ok (.iconst 3, 1) := by decide +kernel
theorem dL_law_239 : decode cL_law 239 = .ok (.iadd, 1) := by decide +kernel
theorem dL_law_240 : decode cL_law 240 = .ok (.iaload, 1) := by decide +kernel
theorem dL_law_241 : decode cL_law 241 = .ok (.aload_n 0, 1) := by decide +kernel
theorem dL_law_242 : decode cL_law 242 = .ok (.iload_n 3, 1) := by decide +kernel
theorem dL_law_243 : decode cL_law 243 = .ok (.iconst 4, 1) := by decide +kernel
theorem dL_law_244 : decode cL_law 244 = .ok (.iadd, 1) := by decide +kernel
theorem dL_law_245 : decode cL_law 245 = .ok (.iaload, 1) := by decide +kernel
theorem dL_law_246 : decode cL_law 246 = .ok (.invokevirtual 18, 3) := by decide +kernel
theorem dL_law_249 : decode cL_law 249 = .ok (.aload_n 2, 1) := by decide +kernel
theorem dL_law_250 : decode cL_law 250 = .ok (.aload_n 0, 1) := by decide +kernel
theorem dL_law_251 : decode cL_law 251 = .ok (.iload_n 3, 1) := by decide +kernel
theorem dL_law_252 : decode cL_law 252 = .ok (.iconst 1, 1) := by decide +kernel
theorem dL_law_253 : decode cL_law 253 = .ok (.iadd, 1) := by decide +kernel
theorem dL_law_254 : decode cL_law 254 = .ok (.iaload, 1) := by decide +kernel
theorem dL_law_255 : decode cL_law 255 = .ok (.aload_n 0, 1) := by decide +kernel
theorem dL_law_256 : decode cL_law 256 = .ok (.iload_n 3, 1) := by decide +kernel
theorem dL_law_257 : decode cL_law 257 = .ok (.iconst 2, 1) := by decide +kernel
theorem dL_law_258 : decode cL_law 258 = .ok (.iadd, 1) := by decide +kernel
theorem dL_law_259 : decode cL_law 259 = .ok (.iaload, 1) := by decide +kernel
theorem dL_law_260 : decode cL_law 260 = .ok (.aload_n 0, 1) := by decide +kernel
theorem dL_law_261 : decode cL_law 261 = .ok (.iload_n 3, 1) := by decide +kernel
theorem dL_law_262 : decode cL_law 262 = .ok (.iconst 3, 1) := by decide +kernel
theorem dL_law_263 : decode cL_law 263 = .ok (.iadd, 1) := by decide +kernel
theorem dL_law_264 : decode cL_law 264 = .ok (.iaload, 1) := by decide +kernel
theorem dL_law_265 : decode cL_law 265 = .ok (.aload_n 0, 1) := by decide +kernel
theorem dL_law_266 : decode cL_law 266 = .ok (.iload_n 3, 1) := by decide +kernel
theorem dL_law_267 : decode cL_law 267 = .ok (.iconst 4, 1) := by decide +kernel
theorem dL_law_268 : decode cL_law 268 = .ok (.iadd, 1) := by decide +kernel
theorem dL_law_269 : decode cL_law 269 = .ok (.iaload, 1) := by decide +kernel
theorem dL_law_270 : decode cL_law 270 = .ok (.invokevirtual 21, 3) := by decide +kernel
theorem dL_law_273 : decode cL_law 273 = .ok (.if_icmp .eq 624, 3) := by decide +kernel
theorem dL_law_276 : decode cL_law 276 = .ok (.iconst 0, 1) := by decide +kernel
theorem dL_law_277 : decode cL_law 277 = .ok (.ireturn, 1) := by decide +kernel
theorem dL_law_278 : decode cL_law 278 = .ok (.aload_n 1, 1) := by decide +kernel
theorem dL_law_279 : decode cL_law 279 = .ok (.aload_n 0, 1) := by decide +kernel
theorem dL_law_280 : decode cL_law 280 = .ok (.iload_n 3, 1) := by decide +kernel
theorem dL_law_281 : decode cL_law 281 = .ok (.iconst 1, 1) := by decide +kernel
theorem dL_law_282 : decode cL_law 282 = .ok (.iadd, 1) := by decide +kernel
theorem dL_law_283 : decode cL_law 283 = .ok (.iaload, 1) := by decide +kernel
theorem dL_law_284 : decode cL_law 284 = .ok (.invokevirtual 22, 3) := by decide +kernel
theorem dL_law_287 : decode cL_law 287 = .ok (.aload_n 2, 1) := by decide +kernel
theorem dL_law_288 : decode cL_law 288 = .ok (.aload_n 0, 1) := by decide +kernel
theorem dL_law_289 : decode cL_law 289 = .ok (.iload_n 3, 1) := by decide +kernel
theorem dL_law_290 : decode cL_law 290 = .ok (.iconst 1, 1) := by decide +kernel
theorem dL_law_291 : decode cL_law 291 = .ok (.iadd, 1) := by decide +kernel
theorem dL_law_292 : decode cL_law 292 = .ok (.iaload, 1) := by decide +kernel
theorem dL_law_293 : decode cL_law 293 = .ok (.invokevirtual 26, 3) := by decide +kernel
theorem dL_law_296 : decode cL_law 296 = .ok (.if_icmp .eq 601, 3) := by decide +kernel
theorem dL_law_299 : decode cL_law 299 = .ok (.iconst 0, 1) := by decide +kernel
theorem dL_law_300 : decode cL_law 300 = .ok (.ireturn, 1) := by decide +kernel
theorem dL_law_301 : decode cL_law 301 = .ok (.aload_n 1, 1) := by decide +kernel
theorem dL_law_302 : decode cL_law 302 = .ok (.aload_n 0, 1) := by decide +kernel
theorem dL_law_303 : decode cL_law 303 = .ok (.iload_n 3, 1) := by decide +kernel
theorem dL_law_304 : decode cL_law 304 = .ok (.iconst 1, 1) := by decide +kernel
theorem dL_law_305 : decode cL_law 305 = .ok (.iadd, 1) := by decide +kernel
theorem dL_law_306 : decode cL_law 306 = .ok (.iaload, 1) := by decide +kernel
theorem dL_law_307 : decode cL_law 307 = .ok (.invokevirtual 27, 3) := by decide +kernel
theorem dL_law_310 : decode cL_law 310 = .ok (.aload_n 2, 1) := by decide +kernel
theorem dL_law_311 : decode cL_law 311 = .ok (.aload_n 0, 1) := by decide +kernel
theorem dL_law_312 : decode cL_law 312 = .ok (.iload_n 3, 1) := by decide +kernel
theorem dL_law_313 : decode cL_law 313 = .ok (.iconst 1, 1) := by decide +kernel
theorem dL_law_314 : decode cL_law 314 = .ok (.iadd, 1) := by decide +kernel
theorem dL_law_315 : decode cL_law 315 = .ok (.iaload, 1) := by decide +kernel
theorem dL_law_316 : decode cL_law 316 = .ok (.invokevirtual 30, 3) := by decide +kernel
theorem dL_law_319 : decode cL_law 319 = .ok (.if_icmp .eq 578, 3) := by decide +kernel
theorem dL_law_322 : decode cL_law 322 = .ok (.iconst 0, 1) := by decide +kernel
theorem dL_law_323 : decode cL_law 323 = .ok (.ireturn, 1) := by decide +kernel
theorem dL_law_324 : decode cL_law 324 = .ok (.aload_n 1, 1) := by decide +kernel
theorem dL_law_325 : decode cL_law 325 = .ok (.invokevirtual 31, 3) := by decide +kernel
theorem dL_law_328 : decode cL_law 328 = .ok (.aload_n 2, 1) := by decide +kernel
theorem dL_law_329 : decode cL_law 329 = .ok (.invokevirtual 35, 3) := by decide +kernel
theorem dL_law_332 : decode cL_law 332 = .ok (.if_icmp .eq 565, 3) := by decide +kernel
theorem dL_law_335 : decode cL_law 335 = .ok (.iconst 0, 1) := by decide +kernel
theorem dL_law_336 : decode cL_law 336 = .ok (.ireturn, 1) := by decide +kernel
theorem dL_law_337 : decode cL_law 337 = .ok (.aload_n 1, 1) := by decide +kernel
theorem dL_law_338 : decode cL_law 338 = .ok (.invokevirtual 36, 3) := by decide +kernel
theorem dL_law_341 : decode cL_law 341 = .ok (.aload_n 2, 1) := by decide +kernel
theorem dL_law_342 : decode cL_law 342 = .ok (.invokevirtual 39, 3) := by decide +kernel
theorem dL_law_345 : decode cL_law 345 = .ok (.if_icmp .eq 552, 3) := by decide +kernel
theorem dL_law_348 : decode cL_law 348 = .ok (.iconst 0, 1) := by decide +kernel
theorem dL_law_349 : decode cL_law 349 = .ok (.ireturn, 1) := by decide +kernel
theorem dL_law_350 : decode cL_law 350 = .ok (.aload_n 1, 1) := by decide +kernel
theorem dL_law_351 : decode cL_law 351 = .ok (.aload_n 0, 1) := by decide +kernel
theorem dL_law_352 : decode cL_law 352 = .ok (.iload_n 3, 1) := by decide +kernel
theorem dL_law_353 : decode cL_law 353 = .ok (.iconst 1, 1) := by decide +kernel
theorem dL_law_354 : decode cL_law 354 = .ok (.iadd, 1) := by decide +kernel
theorem dL_law_355 : decode cL_law 355 = .ok (.iaload, 1) := by decide +kernel
theorem dL_law_356 : decode cL_law 356 = .ok (.invokevirtual 40, 3) := by decide +kernel
theorem dL_law_359 : decode cL_law 359 = .ok (.aload_n 2, 1) := by decide +kernel
theorem dL_law_360 : decode cL_law 360 = .ok (.aload_n 0, 1) := by decide +kernel
theorem dL_law_361 : decode cL_law 361 = .ok (.iload_n 3, 1) := by decide +kernel
theorem dL_law_362 : decode cL_law 362 = .ok (.iconst 1, 1) := by decide +kernel
theorem dL_law_363 : decode cL_law 363 = .ok (.iadd, 1) := by decide +kernel
theorem dL_law_364 : decode cL_law 364 = .ok (.iaload, 1) := by decide +kernel
theorem dL_law_365 : decode cL_law 365 = .ok (.invokevirtual 43, 3) := by decide +kernel
theorem dL_law_368 : decode cL_law 368 = .ok (.if_icmp .eq 529, 3) := by decide +kernel
theorem dL_law_371 : decode cL_law 371 = .ok (.iconst 0, 1) := by decide +kernel
theorem dL_law_372 : decode cL_law 372 = .ok (.ireturn, 1) := by decide +kernel
theorem dL_law_373 : decode cL_law 373 = .ok (.aload_n 1, 1) := by decide +kernel
theorem dL_law_374 : decode cL_law 374 = .ok (.aload_n 0, 1) := by decide +kernel
theorem dL_law_375 : decode cL_law 375 = .ok (.iload_n 3, 1) := by decide +kernel
theorem dL_law_376 : decode cL_law 376 = .ok (.iconst 1, 1) := by decide +kernel
theorem dL_law_377 : decode cL_law 377 = .ok (.iadd, 1) := by decide +kernel
theorem dL_law_378 : decode cL_law 378 = .ok (.iaload, 1) := by decide +kernel
theorem dL_law_379 : decode cL_law 379 = .ok (.i2c, 1) := by decide +kernel
theorem dL_law_380 : decode cL_law 380 = .ok (.invokevirtual 44, 3) := by decide +kernel
theorem dL_law_383 : decode cL_law 383 = .ok (.aload_n 2, 1) := by decide +kernel
theorem dL_law_384 : decode cL_law 384 = .ok (.aload_n 0, 1) := by decide +kernel
theorem dL_law_385 : decode cL_law 385 = .ok (.iload_n 3, 1) := by decide +kernel
theorem dL_law_386 : decode cL_law 386 = .ok (.iconst 1, 1) := by decide +kernel
theorem dL_law_387 : decode cL_law 387 = .ok (.iadd, 1) := by decide +kernel
theorem dL_law_388 : decode cL_law 388 = .ok (.iaload, 1) := by decide +kernel
theorem dL_law_389 : decode cL_law 389 = .ok (.i2c, 1) := by decide +kernel
theorem dL_law_390 : decode cL_law 390 = .ok (.invokevirtual 48, 3) := by decide +kernel
theorem dL_law_393 : decode cL_law 393 = .ok (.if_icmp .eq 504, 3) := by decide +kernel
theorem dL_law_396 : decode cL_law 396 = .ok (.iconst 0, 1) := by decide +kernel
theorem dL_law_397 : decode cL_law 397 = .ok (.ireturn, 1) := by decide +kernel
theorem dL_law_398 : decode cL_law 398 = .ok (.aload_n 1, 1) := by decide +kernel
theorem dL_law_399 : decode cL_law 399 = .ok (.invokevirtual 49, 3) := by decide +kernel
theorem dL_law_402 : decode cL_law 402 = .ok (.aload_n 2, 1) := by decide +kernel
theorem dL_law_403 : decode cL_law 403 = .ok (.invokevirtual 52, 3) := by decide +kernel
theorem dL_law_406 : decode cL_law 406 = .ok (.if_icmp .eq 491, 3) := by decide +kernel
theorem dL_law_409 : decode cL_law 409 = .ok (.iconst 0, 1) := by decide +kernel
theorem dL_law_410 : decode cL_law 410 = .ok (.ireturn, 1) := by decide +kernel
theorem dL_law_411 : decode cL_law 411 = .ok (.aload_n 1, 1) := by decide +kernel
theorem dL_law_412 : decode cL_law 412 = .ok (.invokevirtual 53, 3) := by decide +kernel
theorem dL_law_415 : decode cL_law 415 = .ok (.aload_n 2, 1) := by decide +kernel
theorem dL_law_416 : decode cL_law 416 = .ok (.invokevirtual 56, 3) := by decide +kernel
theorem dL_law_419 : decode cL_law 419 = .ok (.if_icmp .eq 478, 3) := by decide +kernel
theorem dL_law_422 : decode cL_law 422 = .ok (.iconst 0, 1) := by decide +kernel
theorem dL_law_423 : decode cL_law 423 = .ok (.ireturn, 1) := by decide +kernel
theorem dL_law_424 : decode cL_law 424 = .ok (.aload_n 1, 1) := by decide +kernel
theorem dL_law_425 : decode cL_law 425 = .ok (.invokevirtual 57, 3) := by decide +kernel
theorem dL_law_428 : decode cL_law 428 = .ok (.aload_n 2, 1) := by decide +kernel
theorem dL_law_429 : decode cL_law 429 = .ok (.invokevirtual 60, 3) := by decide +kernel
theorem dL_law_432 : decode cL_law 432 = .ok (.if_icmp .eq 465, 3) := by decide +kernel
theorem dL_law_435 : decode cL_law 435 = .ok (.iconst 0, 1) := by decide +kernel
theorem dL_law_436 : decode cL_law 436 = .ok (.ireturn, 1) := by decide +kernel
theorem dL_law_437 : decode cL_law 437 = .ok (.aload_n 1, 1) := by decide +kernel
theorem dL_law_438 : decode cL_law 438 = .ok (.invokevirtual 61, 3) := by decide +kernel
theorem dL_law_441 : decode cL_law 441 = .ok (.aload_n 2, 1) := by decide +kernel
theorem dL_law_442 : decode cL_law 442 = .ok (.invokevirtual 64, 3) := by decide +kernel
theorem dL_law_445 : decode cL_law 445 = .ok (.if_icmp .eq 452, 3) := by decide +kernel
theorem dL_law_448 : decode cL_law 448 = .ok (.iconst 0, 1) := by decide +kernel
theorem dL_law_449 : decode cL_law 449 = .ok (.ireturn, 1) := by decide +kernel
theorem dL_law_450 : decode cL_law 450 = .ok (.aload_n 1, 1) := by decide +kernel
theorem dL_law_451 : decode cL_law 451 = .ok (.invokevirtual 65, 3) := by decide +kernel
theorem dL_law_454 : decode cL_law 454 = .ok (.aload_n 2, 1) := by decide +kernel
theorem dL_law_455 : decode cL_law 455 = .ok (.invokevirtual 68, 3) := by decide +kernel
theorem dL_law_458 : decode cL_law 458 = .ok (.if_icmp .eq 439, 3) := by decide +kernel
theorem dL_law_461 : decode cL_law 461 = .ok (.iconst 0, 1) := by decide +kernel
theorem dL_law_462 : decode cL_law 462 = .ok (.ireturn, 1) := by decide +kernel
theorem dL_law_463 : decode cL_law 463 = .ok (.aload_n 1, 1) := by decide +kernel
theorem dL_law_464 : decode cL_law 464 = .ok (.aload_n 0, 1) := by decide +kernel
theorem dL_law_465 : decode cL_law 465 = .ok (.iload_n 3, 1) := by decide +kernel
theorem dL_law_466 : decode cL_law 466 = .ok (.iconst 1, 1) := by decide +kernel
theorem dL_law_467 : decode cL_law 467 = .ok (.iadd, 1) := by decide +kernel
theorem dL_law_468 : decode cL_law 468 = .ok (.iaload, 1) := by decide +kernel
theorem dL_law_469 : decode cL_law 469 = .ok (.invokevirtual 69, 3) := by decide +kernel
theorem dL_law_472 : decode cL_law 472 = .ok (.aload_n 2, 1) := by decide +kernel
theorem dL_law_473 : decode cL_law 473 = .ok (.aload_n 0, 1) := by decide +kernel
theorem dL_law_474 : decode cL_law 474 = .ok (.iload_n 3, 1) := by decide +kernel
theorem dL_law_475 : decode cL_law 475 = .ok (.iconst 1, 1) := by decide +kernel
theorem dL_law_476 : decode cL_law 476 = .ok (.iadd, 1) := by decide +kernel
theorem dL_law_477 : decode cL_law 477 = .ok (.iaload, 1) := by decide +kernel
theorem dL_law_478 : decode cL_law 478 = .ok (.invokevirtual 72, 3) := by decide +kernel
theorem dL_law_481 : decode cL_law 481 = .ok (.if_icmp .eq 416, 3) := by decide +kernel
theorem dL_law_484 : decode cL_law 484 = .ok (.iconst 0, 1) := by decide +kernel
theorem dL_law_485 : decode cL_law 485 = .ok (.ireturn, 1) := by decide +kernel
theorem dL_law_486 : decode cL_law 486 = .ok (.aload_n 1, 1) := by decide +kernel
theorem dL_law_487 : decode cL_law 487 = .ok (.aload_n 0, 1) := by decide +kernel
theorem dL_law_488 : decode cL_law 488 = .ok (.iload_n 3, 1) := by decide +kernel
theorem dL_law_489 : decode cL_law 489 = .ok (.iconst 1, 1) := by decide +kernel
theorem dL_law_490 : decode cL_law 490 = .ok (.iadd, 1) := by decide +kernel
theorem dL_law_491 : decode cL_law 491 = .ok (.iaload, 1) := by decide +kernel
theorem dL_law_492 : decode cL_law 492 = .ok (.invokevirtual 73, 3) := by decide +kernel
theorem dL_law_495 : decode cL_law 495 = .ok (.aload_n 2, 1) := by decide +kernel
theorem dL_law_496 : decode cL_law 496 = .ok (.aload_n 0, 1) := by decide +kernel
theorem dL_law_497 : decode cL_law 497 = .ok (.iload_n 3, 1) := by decide +kernel
theorem dL_law_498 : decode cL_law 498 = .ok (.iconst 1, 1) := by decide +kernel
theorem dL_law_499 : decode cL_law 499 = .ok (.iadd, 1) := by decide +kernel
theorem dL_law_500 : decode cL_law 500 = .ok (.iaload, 1) := by decide +kernel
theorem dL_law_501 : decode cL_law 501 = .ok (.invokevirtual 76, 3) := by decide +kernel
theorem dL_law_504 : decode cL_law 504 = .ok (.if_icmp .eq 393, 3) := by decide +kernel
theorem dL_law_507 : decode cL_law 507 = .ok (.iconst 0, 1) := by decide +kernel
theorem dL_law_508 : decode cL_law 508 = .ok (.ireturn, 1) := by decide +kernel
theorem dL_law_509 : decode cL_law 509 = .ok (.aload_n 1, 1) := by decide +kernel
theorem dL_law_510 : decode cL_law 510 = .ok (.aload_n 0, 1) := by decide +kernel
theorem dL_law_511 : decode cL_law 511 = .ok (.iload_n 3, 1) := by decide +kernel
theorem dL_law_512 : decode cL_law 512 = .ok (.iconst 1, 1) := by decide +kernel
theorem dL_law_513 : decode cL_law 513 = .ok (.iadd, 1) := by decide +kernel
theorem dL_law_514 : decode cL_law 514 = .ok (.iaload, 1) := by decide +kernel
theorem dL_law_515 : decode cL_law 515 = .ok (.invokevirtual 77, 3) := by decide +kernel
theorem dL_law_518 : decode cL_law 518 = .ok (.aload_n 2, 1) := by decide +kernel
theorem dL_law_519 : decode cL_law 519 = .ok (.aload_n 0, 1) := by decide +kernel
theorem dL_law_520 : decode cL_law 520 = .ok (.iload_n 3, 1) := by decide +kernel
theorem dL_law_521 : decode cL_law 521 = .ok (.iconst 1, 1) := by decide +kernel
theorem dL_law_522 : decode cL_law 522 = .ok (.iadd, 1) := by decide +kernel
theorem dL_law_523 : decode cL_law 523 = .ok (.iaload, 1) := by decide +kernel
theorem dL_law_524 : decode cL_law 524 = .ok (.invokevirtual 80, 3) := by decide +kernel
theorem dL_law_527 : decode cL_law 527 = .ok (.if_icmp .eq 370, 3) := by decide +kernel
theorem dL_law_530 : decode cL_law 530 = .ok (.iconst 0, 1) := by decide +kernel
theorem dL_law_531 : decode cL_law 531 = .ok (.ireturn, 1) := by decide +kernel
theorem dL_law_532 : decode cL_law 532 = .ok (.aload_n 1, 1) := by decide +kernel
theorem dL_law_533 : decode cL_law 533 = .ok (.aload_n 0, 1) := by decide +kernel
theorem dL_law_534 : decode cL_law 534 = .ok (.iload_n 3, 1) := by decide +kernel
theorem dL_law_535 : decode cL_law 535 = .ok (.iconst 1, 1) := by decide +kernel
theorem dL_law_536 : decode cL_law 536 = .ok (.iadd, 1) := by decide +kernel
theorem dL_law_537 : decode cL_law 537 = .ok (.iaload, 1) := by decide +kernel
theorem dL_law_538 : decode cL_law 538 = .ok (.invokevirtual 81, 3) := by decide +kernel
theorem dL_law_541 : decode cL_law 541 = .ok (.aload_n 2, 1) := by decide +kernel
theorem dL_law_542 : decode cL_law 542 = .ok (.aload_n 0, 1) := by decide +kernel
theorem dL_law_543 : decode cL_law 543 = .ok (.iload_n 3, 1) := by decide +kernel
theorem dL_law_544 : decode cL_law 544 = .ok (.iconst 1, 1) := by decide +kernel
theorem dL_law_545 : decode cL_law 545 = .ok (.iadd, 1) := by decide +kernel
theorem dL_law_546 : decode cL_law 546 = .ok (.iaload, 1) := by decide +kernel
theorem dL_law_547 : decode cL_law 547 = .ok (.invokevirtual 84, 3) := by decide +kernel
theorem dL_law_550 : decode cL_law 550 = .ok (.if_icmp .eq 347, 3) := by decide +kernel
theorem dL_law_553 : decode cL_law 553 = .ok (.iconst 0, 1) := by decide +kernel
theorem dL_law_554 : decode cL_law 554 = .ok (.ireturn, 1) := by decide +kernel
theorem dL_law_555 : decode cL_law 555 = .ok (.aload_n 1, 1) := by decide +kernel
theorem dL_law_556 : decode cL_law 556 = .ok (.aload_n 0, 1) := by decide +kernel
theorem dL_law_557 : decode cL_law 557 = .ok (.iload_n 3, 1) := by decide +kernel
theorem dL_law_558 : decode cL_law 558 = .ok (.iconst 1, 1) := by decide +kernel
theorem dL_law_559 : decode cL_law 559 = .ok (.iadd, 1) := by decide +kernel
theorem dL_law_560 : decode cL_law 560 = .ok (.iaload, 1) := by decide +kernel
theorem dL_law_561 : decode cL_law 561 = .ok (.aload_n 0, 1) := by decide +kernel
theorem dL_law_562 : decode cL_law 562 = .ok (.iload_n 3, 1) := by decide +kernel
theorem dL_law_563 : decode cL_law 563 = .ok (.iconst 2, 1) := by decide +kernel
theorem dL_law_564 : decode cL_law 564 = .ok (.iadd, 1) := by decide +kernel
theorem dL_law_565 : decode cL_law 565 = .ok (.iaload, 1) := by decide +kernel
theorem dL_law_566 : decode cL_law 566 = .ok (.invokevirtual 85, 3) := by decide +kernel
theorem dL_law_569 : decode cL_law 569 = .ok (.aload_n 2, 1) := by decide +kernel
theorem dL_law_570 : decode cL_law 570 = .ok (.aload_n 0, 1) := by decide +kernel
theorem dL_law_571 : decode cL_law 571 = .ok (.iload_n 3, 1) := by decide +kernel
theorem dL_law_572 : decode cL_law 572 = .ok (.iconst 1, 1) := by decide +kernel
theorem dL_law_573 : decode cL_law 573 = .ok (.iadd, 1) := by decide +kernel
theorem dL_law_574 : decode cL_law 574 = .ok (.iaload, 1) := by decide +kernel
theorem dL_law_575 : decode cL_law 575 = .ok (.aload_n 0, 1) := by decide +kernel
theorem dL_law_576 : decode cL_law 576 = .ok (.iload_n 3, 1) := by decide +kernel
theorem dL_law_577 : decode cL_law 577 = .ok (.iconst 2, 1) := by decide +kernel
theorem dL_law_578 : decode cL_law 578 = .ok (.iadd, 1) := by decide +kernel
theorem dL_law_579 : decode cL_law 579 = .ok (.iaload, 1) := by decide +kernel
theorem dL_law_580 : decode cL_law 580 = .ok (.invokevirtual 89, 3) := by decide +kernel
theorem dL_law_583 : decode cL_law 583 = .ok (.if_icmp .eq 314, 3) := by decide +kernel
theorem dL_law_586 : decode cL_law 586 = .ok (.iconst 0, 1) := by decide +kernel
theorem dL_law_587 : decode cL_law 587 = .ok (.ireturn, 1) := by decide +kernel
theorem dL_law_588 : decode cL_law 588 = .ok (.aload_n 1, 1) := by decide +kernel
theorem dL_law_589 : decode cL_law 589 = .ok (.aload_n 0, 1) := by decide +kernel
theorem dL_law_590 : decode cL_law 590 = .ok (.iload_n 3, 1) := by decide +kernel
theorem dL_law_591 : decode cL_law 591 = .ok (.iconst 1, 1) := by decide +kernel
theorem dL_law_592 : decode cL_law 592 = .ok (.iadd, 1) := by decide +kernel
theorem dL_law_593 : decode cL_law 593 = .ok (.iaload, 1) := by decide +kernel
theorem dL_law_594 : decode cL_law 594 = .ok (.invokevirtual 90, 3) := by decide +kernel
theorem dL_law_597 : decode cL_law 597 = .ok (.aload_n 2, 1) := by decide +kernel
theorem dL_law_598 : decode cL_law 598 = .ok (.aload_n 0, 1) := by decide +kernel
theorem dL_law_599 : decode cL_law 599 = .ok (.iload_n 3, 1) := by decide +kernel
theorem dL_law_600 : decode cL_law 600 = .ok (.iconst 1, 1) := by decide +kernel
theorem dL_law_601 : decode cL_law 601 = .ok (.iadd, 1) := by decide +kernel
theorem dL_law_602 : decode cL_law 602 = .ok (.iaload, 1) := by decide +kernel
theorem dL_law_603 : decode cL_law 603 = .ok (.invokevirtual 93, 3) := by decide +kernel
theorem dL_law_606 : decode cL_law 606 = .ok (.if_icmp .eq 291, 3) := by decide +kernel
theorem dL_law_609 : decode cL_law 609 = .ok (.iconst 0, 1) := by decide +kernel
theorem dL_law_610 : decode cL_law 610 = .ok (.ireturn, 1) := by decide +kernel
theorem dL_law_611 : decode cL_law 611 = .ok (.aload_n 1, 1) := by decide +kernel
theorem dL_law_612 : decode cL_law 612 = .ok (.aload_n 0, 1) := by decide +kernel
theorem dL_law_613 : decode cL_law 613 = .ok (.iload_n 3, 1) := by decide +kernel
theorem dL_law_614 : decode cL_law 614 = .ok (.iconst 1, 1) := by decide +kernel
theorem dL_law_615 : decode cL_law 615 = .ok (.iadd, 1) := by decide +kernel
theorem dL_law_616 : decode cL_law 616 = .ok (.iaload, 1) := by decide +kernel
theorem dL_law_617 : decode cL_law 617 = .ok (.invokevirtual 94, 3) := by decide +kernel
theorem dL_law_620 : decode cL_law 620 = .ok (.aload_n 2, 1) := by decide +kernel
theorem dL_law_621 : decode cL_law 621 = .ok (.aload_n 0, 1) := by decide +kernel
theorem dL_law_622 : decode cL_law 622 = .ok (.iload_n 3, 1) := by decide +kernel
theorem dL_law_623 : decode cL_law 623 = .ok (.iconst 1, 1) := by decide +kernel
theorem dL_law_624 : decode cL_law 624 = .ok (.iadd, 1) := by decide +kernel
theorem dL_law_625 : decode cL_law 625 = .ok (.iaload, 1) := by decide +kernel
theorem dL_law_626 : decode cL_law 626 = .ok (.invokevirtual 97, 3) := by decide +kernel
theorem dL_law_629 : decode cL_law 629 = .ok (.if_icmp .eq 268, 3) := by decide +kernel
theorem dL_law_632 : decode cL_law 632 = .ok (.iconst 0, 1) := by decide +kernel
theorem dL_law_633 : decode cL_law 633 = .ok (.ireturn, 1) := by decide +kernel
theorem dL_law_634 : decode cL_law 634 = .ok (.aload_n 1, 1) := by decide +kernel
theorem dL_law_635 : decode cL_law 635 = .ok (.aload_n 0, 1) := by decide +kernel
theorem dL_law_636 : decode cL_law 636 = .ok (.iload_n 3, 1) := by decide +kernel
theorem dL_law_637 : decode cL_law 637 = .ok (.iconst 1, 1) := by decide +kernel
theorem dL_law_638 : decode cL_law 638 = .ok (.iadd, 1) := by decide +kernel
theorem dL_law_639 : decode cL_law 639 = .ok (.iaload, 1) := by decide +kernel
theorem dL_law_640 : decode cL_law 640 = .ok (.invokevirtual 98, 3) := by decide +kernel
theorem dL_law_643 : decode cL_law 643 = .ok (.aload_n 2, 1) := by decide +kernel
theorem dL_law_644 : decode cL_law 644 = .ok (.aload_n 0, 1) := by decide +kernel
theorem dL_law_645 : decode cL_law 645 = .ok (.iload_n 3, 1) := by decide +kernel
theorem dL_law_646 : decode cL_law 646 = .ok (.iconst 1, 1) := by decide +kernel
theorem dL_law_647 : decode cL_law 647 = .ok (.iadd, 1) := by decide +kernel
theorem dL_law_648 : decode cL_law 648 = .ok (.iaload, 1) := by decide +kernel
theorem dL_law_649 : decode cL_law 649 = .ok (.invokevirtual 101, 3) := by decide +kernel
theorem dL_law_652 : decode cL_law 652 = .ok (.if_icmp .eq 245, 3) := by decide +kernel
theorem dL_law_655 : decode cL_law 655 = .ok (.iconst 0, 1) := by decide +kernel
theorem dL_law_656 : decode cL_law 656 = .ok (.ireturn, 1) := by decide +kernel
theorem dL_law_657 : decode cL_law 657 = .ok (.aload_n 1, 1) := by decide +kernel
theorem dL_law_658 : decode cL_law 658 = .ok (.aload_n 0, 1) := by decide +kernel
theorem dL_law_659 : decode cL_law 659 = .ok (.iload_n 3, 1) := by decide +kernel
theorem dL_law_660 : decode cL_law 660 = .ok (.iconst 1, 1) := by decide +kernel
theorem dL_law_661 : decode cL_law 661 = .ok (.iadd, 1) := by decide +kernel
theorem dL_law_662 : decode cL_law 662 = .ok (.iaload, 1) := by decide +kernel
theorem dL_law_663 : decode cL_law 663 = .ok (.invokevirtual 102, 3) := by decide +kernel
theorem dL_law_666 : decode cL_law 666 = .ok (.aload_n 2, 1) := by decide +kernel
theorem dL_law_667 : decode cL_law 667 = .ok (.aload_n 0, 1) := by decide +kernel
theorem dL_law_668 : decode cL_law 668 = .ok (.iload_n 3, 1) := by decide +kernel
theorem dL_law_669 : decode cL_law 669 = .ok (.iconst 1, 1) := by decide +kernel
theorem dL_law_670 : decode cL_law 670 = .ok (.iadd, 1) := by decide +kernel
theorem dL_law_671 : decode cL_law 671 = .ok (.iaload, 1) := by decide +kernel
theorem dL_law_672 : decode cL_law 672 = .ok (.invokevirtual 105, 3) := by decide +kernel
theorem dL_law_675 : decode cL_law 675 = .ok (.if_icmp .eq 222, 3) := by decide +kernel
theorem dL_law_678 : decode cL_law 678 = .ok (.iconst 0, 1) := by decide +kernel
theorem dL_law_679 : decode cL_law 679 = .ok (.ireturn, 1) := by decide +kernel
theorem dL_law_680 : decode cL_law 680 = .ok (.aload_n 1, 1) := by decide +kernel
theorem dL_law_681 : decode cL_law 681 = .ok (.aload_n 0, 1) := by decide +kernel
theorem dL_law_682 : decode cL_law 682 = .ok (.iload_n 3, 1) := by decide +kernel
theorem dL_law_683 : decode cL_law 683 = .ok (.iconst 1, 1) := by decide +kernel
theorem dL_law_684 : decode cL_law 684 = .ok (.iadd, 1) := by decide +kernel
theorem dL_law_685 : decode cL_law 685 = .ok (.iaload, 1) := by decide +kernel
theorem dL_law_686 : decode cL_law 686 = .ok (.invokevirtual 106, 3) := by decide +kernel
theorem dL_law_689 : decode cL_law 689 = .ok (.aload_n 2, 1) := by decide +kernel
theorem dL_law_690 : decode cL_law 690 = .ok (.aload_n 0, 1) := by decide +kernel
theorem dL_law_691 : decode cL_law 691 = .ok (.iload_n 3, 1) := by decide +kernel
theorem dL_law_692 : decode cL_law 692 = .ok (.iconst 1, 1) := by decide +kernel
theorem dL_law_693 : decode cL_law 693 = .ok (.iadd, 1) := by decide +kernel
theorem dL_law_694 : decode cL_law 694 = .ok (.iaload, 1) := by decide +kernel
theorem dL_law_695 : decode cL_law 695 = .ok (.invokevirtual 109, 3) := by decide +kernel
theorem dL_law_698 : decode cL_law 698 = .ok (.if_icmp .eq 199, 3) := by decide +kernel
theorem dL_law_701 : decode cL_law 701 = .ok (.iconst 0, 1) := by decide +kernel
theorem dL_law_702 : decode cL_law 702 = .ok (.ireturn, 1) := by decide +kernel
theorem dL_law_703 : decode cL_law 703 = .ok (.aload_n 1, 1) := by decide +kernel
theorem dL_law_704 : decode cL_law 704 = .ok (.aload_n 0, 1) := by decide +kernel
theorem dL_law_705 : decode cL_law 705 = .ok (.iload_n 3, 1) := by decide +kernel
theorem dL_law_706 : decode cL_law 706 = .ok (.iconst 1, 1) := by decide +kernel
theorem dL_law_707 : decode cL_law 707 = .ok (.iadd, 1) := by decide +kernel
theorem dL_law_708 : decode cL_law 708 = .ok (.iaload, 1) := by decide +kernel
theorem dL_law_709 : decode cL_law 709 = .ok (.invokevirtual 110, 3) := by decide +kernel
theorem dL_law_712 : decode cL_law 712 = .ok (.aload_n 2, 1) := by decide +kernel
theorem dL_law_713 : decode cL_law 713 = .ok (.aload_n 0, 1) := by decide +kernel
theorem dL_law_714 : decode cL_law 714 = .ok (.iload_n 3, 1) := by decide +kernel
theorem dL_law_715 : decode cL_law 715 = .ok (.iconst 1, 1) := by decide +kernel
theorem dL_law_716 : decode cL_law 716 = .ok (.iadd, 1) := by decide +kernel
theorem dL_law_717 : decode cL_law 717 = .ok (.iaload, 1) := by decide +kernel
theorem dL_law_718 : decode cL_law 718 = .ok (.invokevirtual 113, 3) := by decide +kernel
theorem dL_law_721 : decode cL_law 721 = .ok (.if_icmp .eq 176, 3) := by decide +kernel
theorem dL_law_724 : decode cL_law 724 = .ok (.iconst 0, 1) := by decide +kernel
theorem dL_law_725 : decode cL_law 725 = .ok (.ireturn, 1) := by decide +kernel
theorem dL_law_726 : decode cL_law 726 = .ok (.aload_n 1, 1) := by decide +kernel
theorem dL_law_727 : decode cL_law 727 = .ok (.aload_n 0, 1) := by decide +kernel
theorem dL_law_728 : decode cL_law 728 = .ok (.iload_n 3, 1) := by decide +kernel
theorem dL_law_729 : decode cL_law 729 = .ok (.iconst 1, 1) := by decide +kernel
theorem dL_law_730 : decode cL_law 730 = .ok (.iadd, 1) := by decide +kernel
theorem dL_law_731 : decode cL_law 731 = .ok (.iaload, 1) := by decide +kernel
theorem dL_law_732 : decode cL_law 732 = .ok (.invokevirtual 114, 3) := by decide +kernel
theorem dL_law_735 : decode cL_law 735 = .ok (.aload_n 2, 1) := by decide +kernel
theorem dL_law_736 : decode cL_law 736 = .ok (.aload_n 0, 1) := by decide +kernel
theorem dL_law_737 : decode cL_law 737 = .ok (.iload_n 3, 1) := by decide +kernel
theorem dL_law_738 : decode cL_law 738 = .ok (.iconst 1, 1) := by decide +kernel
theorem dL_law_739 : decode cL_law 739 = .ok (.iadd, 1) := by decide +kernel
theorem dL_law_740 : decode cL_law 740 = .ok (.iaload, 1) := by decide +kernel
theorem dL_law_741 : decode cL_law 741 = .ok (.invokevirtual 117, 3) := by decide +kernel
theorem dL_law_744 : decode cL_law 744 = .ok (.if_icmp .eq 153, 3) := by decide +kernel
theorem dL_law_747 : decode cL_law 747 = .ok (.iconst 0, 1) := by decide +kernel
theorem dL_law_748 : decode cL_law 748 = .ok (.ireturn, 1) := by decide +kernel
theorem dL_law_749 : decode cL_law 749 = .ok (.aload_n 1, 1) := by decide +kernel
theorem dL_law_750 : decode cL_law 750 = .ok (.aload_n 0, 1) := by decide +kernel
theorem dL_law_751 : decode cL_law 751 = .ok (.iload_n 3, 1) := by decide +kernel
theorem dL_law_752 : decode cL_law 752 = .ok (.iconst 1, 1) := by decide +kernel
theorem dL_law_753 : decode cL_law 753 = .ok (.iadd, 1) := by decide +kernel
theorem dL_law_754 : decode cL_law 754 = .ok (.iaload, 1) := by decide +kernel
theorem dL_law_755 : decode cL_law 755 = .ok (.invokevirtual 118, 3) := by decide +kernel
theorem dL_law_758 : decode cL_law 758 = .ok (.aload_n 2, 1) := by decide +kernel
theorem dL_law_759 : decode cL_law 759 = .ok (.aload_n 0, 1) := by decide +kernel
theorem dL_law_760 : decode cL_law 760 = .ok (.iload_n 3, 1) := by decide +kernel
theorem dL_law_761 : decode cL_law 761 = .ok (.iconst 1, 1) := by decide +kernel
theorem dL_law_762 : decode cL_law 762 = .ok (.iadd, 1) := by decide +kernel
theorem dL_law_763 : decode cL_law 763 = .ok (.iaload, 1) := by decide +kernel
theorem dL_law_764 : decode cL_law 764 = .ok (.invokevirtual 121, 3) := by decide +kernel
theorem dL_law_767 : decode cL_law 767 = .ok (.if_icmp .eq 130, 3) := by decide +kernel
theorem dL_law_770 : decode cL_law 770 = .ok (.iconst 0, 1) := by decide +kernel
theorem dL_law_771 : decode cL_law 771 = .ok (.ireturn, 1) := by decide +kernel
theorem dL_law_772 : decode cL_law 772 = .ok (.aload_n 1, 1) := by decide +kernel
theorem dL_law_773 : decode cL_law 773 = .ok (.aload_n 0, 1) := by decide +kernel
theorem dL_law_774 : decode cL_law 774 = .ok (.iload_n 3, 1) := by decide +kernel
theorem dL_law_775 : decode cL_law 775 = .ok (.iconst 1, 1) := by decide +kernel
theorem dL_law_776 : decode cL_law 776 = .ok (.iadd, 1) := by decide +kernel
theorem dL_law_777 : decode cL_law 777 = .ok (.iaload, 1) := by decide +kernel
theorem dL_law_778 : decode cL_law 778 = .ok (.invokevirtual 122, 3) := by decide +kernel
theorem dL_law_781 : decode cL_law 781 = .ok (.aload_n 2, 1) := by decide +kernel
theorem dL_law_782 : decode cL_law 782 = .ok (.aload_n 0, 1) := by decide +kernel
theorem dL_law_783 : decode cL_law 783 = .ok (.iload_n 3, 1) := by decide +kernel
theorem dL_law_784 : decode cL_law 784 = .ok (.iconst 1, 1) := by decide +kernel
theorem dL_law_785 : decode cL_law 785 = .ok (.iadd, 1) := by decide +kernel
theorem dL_law_786 : decode cL_law 786 = .ok (.iaload, 1) := by decide +kernel
theorem dL_law_787 : decode cL_law 787 = .ok (.invokevirtual 125, 3) := by decide +kernel
theorem dL_law_790 : decode cL_law 790 = .ok (.if_icmp .eq 107, 3) := by decide +kernel
theorem dL_law_793 : decode cL_law 793 = .ok (.iconst 0, 1) := by decide +kernel
theorem dL_law_794 : decode cL_law 794 = .ok (.ireturn, 1) := by decide +kernel
theorem dL_law_795 : decode cL_law 795 = .ok (.aload_n 1, 1) := by decide +kernel
theorem dL_law_796 : decode cL_law 796 = .ok (.aload_n 0, 1) := by decide +kernel
theorem dL_law_797 : decode cL_law 797 = .ok (.iload_n 3, 1) := by decide +kernel
theorem dL_law_798 : decode cL_law 798 = .ok (.iconst 1, 1) := by decide +kernel
theorem dL_law_799 : decode cL_law 799 = .ok (.iadd, 1) := by decide +kernel
theorem dL_law_800 : decode cL_law 800 = .ok (.iaload, 1) := by decide +kernel
theorem dL_law_801 : decode cL_law 801 = .ok (.invokevirtual 126, 3) := by decide +kernel
theorem dL_law_804 : decode cL_law 804 = .ok (.aload_n 2, 1) := by decide +kernel
theorem dL_law_805 : decode cL_law 805 = .ok (.aload_n 0, 1) := by decide +kernel
theorem dL_law_806 : decode cL_law 806 = .ok (.iload_n 3, 1) := by decide +kernel
theorem dL_law_807 : decode cL_law 807 = .ok (.iconst 1, 1) := by decide +kernel
theorem dL_law_808 : decode cL_law 808 = .ok (.iadd, 1) := by decide +kernel
theorem dL_law_809 : decode cL_law 809 = .ok (.iaload, 1) := by decide +kernel
theorem dL_law_810 : decode cL_law 810 = .ok (.invokevirtual 129, 3) := by decide +kernel
theorem dL_law_813 : decode cL_law 813 = .ok (.if_icmp .eq 84, 3) := by decide +kernel
theorem dL_law_816 : decode cL_law 816 = .ok (.iconst 0, 1) := by decide +kernel
theorem dL_law_817 : decode cL_law 817 = .ok (.ireturn, 1) := by decide +kernel
theorem dL_law_818 : decode cL_law 818 = .ok (.aload_n 1, 1) := by decide +kernel
theorem dL_law_819 : decode cL_law 819 = .ok (.aload_n 0, 1) := by decide +kernel
theorem dL_law_820 : decode cL_law 820 = .ok (.iload_n 3, 1) := by decide +kernel
theorem dL_law_821 : decode cL_law 821 = .ok (.iconst 1, 1) := by decide +kernel
theorem dL_law_822 : decode cL_law 822 = .ok (.iadd, 1) := by decide +kernel
theorem dL_law_823 : decode cL_law 823 = .ok (.iaload, 1) := by decide +kernel
theorem dL_law_824 : decode cL_law 824 = .ok (.invokevirtual 130, 3) := by decide +kernel
theorem dL_law_827 : decode cL_law 827 = .ok (.aload_n 2, 1) := by decide +kernel
theorem dL_law_828 : decode cL_law 828 = .ok (.aload_n 0, 1) := by decide +kernel
theorem dL_law_829 : decode cL_law 829 = .ok (.iload_n 3, 1) := by decide +kernel
theorem dL_law_830 : decode cL_law 830 = .ok (.iconst 1, 1) := by decide +kernel
theorem dL_law_831 : decode cL_law 831 = .ok (.iadd, 1) := by decide +kernel
theorem dL_law_832 : decode cL_law 832 = .ok (.iaload, 1) := by decide +kernel
theorem dL_law_833 : decode cL_law 833 = .ok (.invokevirtual 133, 3) := by decide +kernel
theorem dL_law_836 : decode cL_law 836 = .ok (.if_icmp .eq 61, 3) := by decide +kernel
theorem dL_law_839 : decode cL_law 839 = .ok (.iconst 0, 1) := by decide +kernel
theorem dL_law_840 : decode cL_law 840 = .ok (.ireturn, 1) := by decide +kernel
theorem dL_law_841 : decode cL_law 841 = .ok (.aload_n 1, 1) := by decide +kernel
theorem dL_law_842 : decode cL_law 842 = .ok (.aload_n 0, 1) := by decide +kernel
theorem dL_law_843 : decode cL_law 843 = .ok (.iload_n 3, 1) := by decide +kernel
theorem dL_law_844 : decode cL_law 844 = .ok (.iconst 1, 1) := by decide +kernel
theorem dL_law_845 : decode cL_law 845 = .ok (.iadd, 1) := by decide +kernel
theorem dL_law_846 : decode cL_law 846 = .ok (.iaload, 1) := by decide +kernel
theorem dL_law_847 : decode cL_law 847 = .ok (.aload_n 0, 1) := by decide +kernel
theorem dL_law_848 : decode cL_law 848 = .ok (.iload_n 3, 1) := by decide +kernel
theorem dL_law_849 : decode cL_law 849 = .ok (.iconst 2, 1) := by decide +kernel
theorem dL_law_850 : decode cL_law 850 = .ok (.iadd, 1) := by decide +kernel
theorem dL_law_851 : decode cL_law 851 = .ok (.iaload, 1) := by decide +kernel
theorem dL_law_852 : decode cL_law 852 = .ok (.invokevirtual 134, 3) := by decide +kernel
theorem dL_law_855 : decode cL_law 855 = .ok (.aload_n 2, 1) := by decide +kernel
theorem dL_law_856 : decode cL_law 856 = .ok (.aload_n 0, 1) := by decide +kernel
theorem dL_law_857 : decode cL_law 857 = .ok (.iload_n 3, 1) := by decide +kernel
theorem dL_law_858 : decode cL_law 858 = .ok (.iconst 1, 1) := by decide +kernel
theorem dL_law_859 : decode cL_law 859 = .ok (.iadd, 1) := by decide +kernel
theorem dL_law_860 : decode cL_law 860 = .ok (.iaload, 1) := by decide +kernel
theorem dL_law_861 : decode cL_law 861 = .ok (.aload_n 0, 1) := by decide +kernel
theorem dL_law_862 : decode cL_law 862 = .ok (.iload_n 3, 1) := by decide +kernel
theorem dL_law_863 : decode cL_law 863 = .ok (.iconst 2, 1) := by decide +kernel
theorem dL_law_864 : decode cL_law 864 = .ok (.iadd, 1) := by decide +kernel
theorem dL_law_865 : decode cL_law 865 = .ok (.iaload, 1) := by decide +kernel
theorem dL_law_866 : decode cL_law 866 = .ok (.invokevirtual 137, 3) := by decide +kernel
theorem dL_law_869 : decode cL_law 869 = .ok (.if_icmp .eq 28, 3) := by decide +kernel
theorem dL_law_872 : decode cL_law 872 = .ok (.iconst 0, 1) := by decide +kernel
theorem dL_law_873 : decode cL_law 873 = .ok (.ireturn, 1) := by decide +kernel
theorem dL_law_874 : decode cL_law 874 = .ok (.aload_n 1, 1) := by decide +kernel
theorem dL_law_875 : decode cL_law 875 = .ok (.aload_n 0, 1) := by decide +kernel
theorem dL_law_876 : decode cL_law 876 = .ok (.iload_n 3, 1) := by decide +kernel
theorem dL_law_877 : decode cL_law 877 = .ok (.iconst 1, 1) := by decide +kernel
theorem dL_law_878 : decode cL_law 878 = .ok (.iadd, 1) := by decide +kernel
theorem dL_law_879 : decode cL_law 879 = .ok (.iaload, 1) := by decide +kernel
theorem dL_law_880 : decode cL_law 880 = .ok (.invokevirtual 138, 3) := by decide +kernel
theorem dL_law_883 : decode cL_law 883 = .ok (.aload_n 2, 1) := by decide +kernel
theorem dL_law_884 : decode cL_law 884 = .ok (.aload_n 0, 1) := by decide +kernel
theorem dL_law_885 : decode cL_law 885 = .ok (.iload_n 3, 1) := by decide +kernel
theorem dL_law_886 : decode cL_law 886 = .ok (.iconst 1, 1) := by decide +kernel
theorem dL_law_887 : decode cL_law 887 = .ok (.iadd, 1) := by decide +kernel
theorem dL_law_888 : decode cL_law 888 = .ok (.iaload, 1) := by decide +kernel
theorem dL_law_889 : decode cL_law 889 = .ok (.invokevirtual 141, 3) := by decide +kernel
theorem dL_law_892 : decode cL_law 892 = .ok (.if_icmp .eq 5, 3) := by decide +kernel
theorem dL_law_895 : decode cL_law 895 = .ok (.iconst 0, 1) := by decide +kernel
theorem dL_law_896 : decode cL_law 896 = .ok (.ireturn, 1) := by decide +kernel
theorem dL_law_897 : decode cL_law 897 = .ok (.iinc 3 5, 3) := by decide +kernel
theorem dL_law_900 : decode cL_law 900 = .ok (.goto (-882), 3) := by decide +kernel
theorem dL_law_903 : decode cL_law 903 = .ok (.iconst 1, 1) := by decide +kernel
theorem dL_law_904 : decode cL_law 904 = .ok (.ireturn, 1) := by decide +kernel
end
section
/-! ===== the small machine: one world of 64 cells whose references never change, its ints a function of (cell, place); values are ints or cell numbers ===== -/
abbrev xV : Type := Int32 ⊕ Nat
abbrev xM : Type := Nat → Nat → Int32
abbrev xS : Type := Nat ⊕ (List Nat ⊕ (Nat × List (Option Nat)))
/-- launch, class numbers, field places, addresses, the class of int[], the class of Memory[] -/
abbrev xP : Type := Launch × (Nat → ClassId) × (Nat → Nat → Nat) × (Nat → Nat) × ClassId × ClassId
def xl (U : xP) : Launch := U.1
def xD (U : xP) : va_G := (U.2.1, U.2.2.1)
def xad (U : xP) : Nat → Nat := U.2.2.2.1
def xcI (U : xP) : ClassId := U.2.2.2.2.1
def xcQ (U : xP) : ClassId := U.2.2.2.2.2
def classes : List vw_C := [(RX0, TX0, 3), (RX1, TX1, 12), (RX2, TX2, 8), (RX3, TX3, 5), (RX4, TX4, 11)]
def xtys (U : xP) : List (ClassId × FieldType) := [(xcI U, .int), (xcQ U, .object RX1)]
/-- the cells: 0 the object; 1, 2 its history; 3 to 8 its text; 9 to 15 the reference; 16 + 8 g the memory g (0 now, 1 the snapshot, 2 to 5 the history's) and its seven rows -/
def xU : List xS := [.inr (.inr (3, [some 16, some 24, some 1, some 3, none])), .inr (.inr (0, [some 2, none, none])), .inr (.inl [32, 40, 48, 56]), .inr (.inr (2, [some 4, none, none, none, some 5, some 6, some 7, some 8])), .inl 60, .inl 5, .inl 5, .inl 5, .inl 5, .inr (.inr (4, [some 10, some 11, some 12, none, some 13, none, some 14, none, some 15, none, none])), .inl 229, .inl 229, .inl 916, .inl 229, .inl 60, .inl 24, .inr (.inr (1, [some 17, some 18, some 19, some 20, some 21, some 22, some 23, none, none, none, none, none])), .inl 32, .inl 32, .inl 32, .inl 32, .inl 32, .inl 32, .inl 32, .inr (.inr (1, [some 25, some 26, some 27, some 28, some 29, some 30, some 31, none, none, none, none, none])), .inl 32, .inl 32, .inl 32, .inl 32, .inl 32, .inl 32, .inl 32, .inr (.inr (1, [some 33, some 34, some 35, some 36, some 37, some 38, some 39, none, none, none, none, none])), .inl 32, .inl 32, .inl 32, .inl 32, .inl 32, .inl 32, .inl 32, .inr (.inr (1, [some 41, some 42, some 43, some 44, some 45, some 46, some 47, none, none, none, none, none])), .inl 32, .inl 32, .inl 32, .inl 32, .inl 32, .inl 32, .inl 32, .inr (.inr (1, [some 49, some 50, some 51, some 52, some 53, some 54, some 55, none, none, none, none, none])), .inl 32, .inl 32, .inl 32, .inl 32, .inl 32, .inl 32, .inl 32, .inr (.inr (1, [some 57, some 58, some 59, some 60, some 61, some 62, some 63, none, none, none, none, none])), .inl 32, .inl 32, .inl 32, .inl 32, .inl 32, .inl 32, .inl 32]
def xsh (k : Nat) : xS := xU.getD k (.inl 0)
def xcv (U : xP) : xV → Value
  | .inl x => .int x
  | .inr k => .ref (xad U k)
def xfo (U : xP) (f : Nat → Int32) (fs : List (Option Nat)) (j : Nat) : Value := match fs[j]? with
  | some (some k) => .ref (xad U k)
  | _ => .int (f j)
def xfv (U : xP) (f : Nat → Int32) (fs : List (Option Nat)) : List Value := (List.range fs.length).map (xfo U f fs)
def xce (U : xP) (f : Nat → Int32) : xS → va_E
  | .inl n => .inl (xcI U, n, .inl f)
  | .inr (.inl ts) => .inl (xcQ U, ts.length, .inr (.inr (.inr (.inr (fun j => (ts[j]?).map (xad U))))))
  | .inr (.inr (ci, fs)) => .inr (ci, xfv U f fs)
def xWd (U : xP) (M : xM) : va_W := (List.range 64).map (fun k => (xad U k, xce U (M k) (xsh k)))
def xup (M : xM) (k : Nat) (f : Nat → Int32) : xM := fun i => if i = k then f else M i
/-- one number of one cell is another -/
def xset (M : xM) (k j : Nat) (x : Int32) : xM := xup M k (upd (M k) j x)
def xDi (U : xP) : Prop := ∀ i j : Nat, i < 64 → j < 64 → xad U i = xad U j → i = j
def xA (U : xP) : Addr → Prop := fun q => ∃ k : Nat, k < 64 ∧ q = xad U k
theorem xWd_get (U : xP) (M : xM) {k : Nat} (h : k < 64) : (xWd U M)[k]? = some (xad U k, xce U (M k) (xsh k)) := by
  simp [xWd, h]
theorem xWd_len (U : xP) (M : xM) : (xWd U M).length = 64 := by simp [xWd]
theorem xWd_inv (U : xP) (M : xM) {k : Nat} {q : Nat × va_E} (h : (xWd U M)[k]? = some q) : k < 64 ∧ q.1 = xad U k := by
  have hk : k < 64 := by have := (List.getElem?_eq_some_iff.mp h).1; rw [xWd_len] at this; exact this
  rw [xWd_get U M hk] at h
  cases h
  exact ⟨hk, rfl⟩
theorem xWd_set (U : xP) (M : xM) {k : Nat} (h : k < 64) (f : Nat → Int32) : (xWd U M).set k (xad U k, xce U f (xsh k)) = xWd U (xup M k f) := by
  apply List.ext_getElem?
  intro i
  by_cases hi : i < 64
  · rw [xWd_get U _ hi, List.getElem?_set]
    by_cases e : k = i
    · subst e
      simp [xWd_len, h, xup]
    · rw [if_neg e, xWd_get U M hi]
      have e2 : ¬ i = k := fun z => e z.symm
      simp [xup, e2]
  · rw [List.getElem?_eq_none (by rw [List.length_set, xWd_len]; omega), List.getElem?_eq_none (by rw [xWd_len]; omega)]
theorem xDi.D {U : xP} (h : xDi U) (M : xM) {A : Nat → Prop} (hA : ∀ k : Nat, k < 64 → A (xad U k)) : va_D A (xWd U M) := by
  refine ⟨fun i j p q hi hj e => ?_, fun k q hk => ?_⟩
  · obtain ⟨a1, b1⟩ := xWd_inv U M hi
    obtain ⟨a2, b2⟩ := xWd_inv U M hj
    exact h i j a1 a2 (by rw [← b1, ← b2]; exact e)
  · obtain ⟨a1, b1⟩ := xWd_inv U M hk
    rw [b1]; exact hA k a1
theorem xfv_get (U : xP) (f : Nat → Int32) (fs : List (Option Nat)) {j : Nat} (h : j < fs.length) : (xfv U f fs)[j]? = some (xfo U f fs j) := by
  simp [xfv, h]
theorem xfv_set (U : xP) (f : Nat → Int32) (fs : List (Option Nat)) {j : Nat} (h : fs[j]? = some none) (x : Int32) : (xfv U f fs).set j (.int x) = xfv U (upd f j x) fs := by
  have hj : j < fs.length := (List.getElem?_eq_some_iff.mp h).1
  apply List.ext_getElem?
  intro i
  by_cases hi : i < fs.length
  · rw [xfv_get U _ fs hi, List.getElem?_set]
    by_cases e : j = i
    · subst e
      have e1 : xfo U (upd f j x) fs j = .int x := by simp only [xfo, h]; simp [upd]
      rw [e1]
      simp [xfv, hj]
    · rw [if_neg e, xfv_get U f fs hi]
      have e2 : ¬ i = j := fun z => e z.symm
      simp only [xfo, upd, if_neg e2]
  · have hl : ∀ g, (xfv U g fs).length = fs.length := fun g => by simp [xfv]
    rw [List.getElem?_eq_none (by rw [List.length_set, hl]; omega), List.getElem?_eq_none (by rw [hl]; omega)]
/-! locals: a list, a place that isn't known is none -/
def xL (U : xP) (ls : Array Slot) (nL : Nat) (L : List (Option xV)) : Prop := ls.size = nL ∧ lv_wf ls ∧ ∀ (i : Nat) (v : xV), L[i]? = some (some v) → ls[i]? = some (.val (xcv U v))
def xas (U : xP) (L : List (Option xV)) : List (Nat × Value) := (List.range L.length).filterMap (fun i => (L[i]?.join).map (fun v => (i, xcv U v)))
theorem xas_mem {U : xP} {L : List (Option xV)} {i : Nat} {v : xV} (h : L[i]? = some (some v)) : (i, xcv U v) ∈ xas U L := by
  refine List.mem_filterMap.mpr ⟨i, List.mem_range.mpr (List.getElem?_eq_some_iff.mp h).1, ?_⟩
  simp [h]
theorem xas_has {U : xP} {ls : Array Slot} {nL : Nat} {L : List (Option xV)} (h : xL U ls nL L) : lv_has ls nL (xas U L) := by
  refine ⟨h.1, h.2.1, fun q hq => ?_⟩
  obtain ⟨i, -, hi⟩ := List.mem_filterMap.mp hq
  cases e : L[i]? with
  | none => simp [e] at hi
  | some o =>
    cases o with
    | none => simp [e] at hi
    | some v =>
      simp [e] at hi
      rw [← hi]
      exact h.2.2 i v e
theorem xcv_cat (U : xP) (v : xV) : (xcv U v).category = 1 := by cases v <;> rfl
theorem xL.set {U : xP} {ls' : Array Slot} {nL i : Nat} {x : Int32} {L : List (Option xV)} {lv : List (Nat × Value)} (hlv : ∀ (j : Nat) (v : xV), L[j]? = some (some v) → j ≠ i → (j, xcv U v) ∈ lv) (h : lv_has ls' nL ((i, Value.int x) :: lv.filter (fun q => !(q.1 == i) && !(q.1 + 1 == i && q.2.category == 2)))) : xL U ls' nL (L.set i (some (.inl x))) := by
  refine ⟨h.1, h.2.1, fun j v hj => ?_⟩
  rw [List.getElem?_set] at hj
  by_cases e : i = j
  · subst e
    simp at hj
    obtain ⟨-, rfl⟩ := hj
    exact h.2.2 (i, Value.int x) List.mem_cons_self
  · rw [if_neg e] at hj
    have e2 : j ≠ i := fun z => e z.symm
    refine h.2.2 (j, xcv U v) (List.mem_cons_of_mem _ (List.mem_filter.mpr ⟨hlv j v hj e2, ?_⟩))
    simp [e2, xcv_cat]
theorem xL.entry (U : xP) (av : List xV) {n : Nat} (h : av.length ≤ n) : xL U ((lg_sl (av.map (xcv U)) ++ List.replicate (n - (lg_sl (av.map (xcv U))).length) Slot.unset).toArray) n (av.map some ++ List.replicate (n - av.length) none) := by
  have hsl : ∀ w : List xV, lg_sl (w.map (xcv U)) = w.map (fun v => Slot.val (xcv U v)) := by
    intro w
    induction w with
    | nil => rfl
    | cons a w ih =>
      have : lg_sl ((a :: w).map (xcv U)) = (if (xcv U a).category = 2 then [Slot.val (xcv U a), .second] else [Slot.val (xcv U a)]) ++ lg_sl (w.map (xcv U)) := rfl
      rw [this, ih, xcv_cat]
      rfl
  have h1 := lv_entry (av.map (xcv U)) (n := n) (by rw [hsl]; simpa using h)
  refine ⟨h1.1, h1.2.1, fun i v hi => ?_⟩
  have hi2 : i < av.length ∧ av[i]? = some v := by
    by_cases hl : i < av.length
    · rw [List.getElem?_append_left (by simpa using hl), List.getElem?_map] at hi
      refine ⟨hl, ?_⟩
      cases e : av[i]? with
      | none => simp [e] at hi
      | some w => simp [e] at hi; rw [hi]
    · rw [List.getElem?_append_right (by simp; omega), List.getElem?_replicate] at hi
      split at hi <;> simp at hi
  rw [hsl]
  simp only [List.getElem?_toArray]
  rw [List.getElem?_append_left (by simpa using hi2.1), List.getElem?_map, hi2.2]
  rfl
/-! the place where a method stands -/
abbrev xG : Type := Program × Env × Room × State × MethodId × Array Value × List Frame × Method × Code × (Nat → Prop) × Nat × Nat × Nat × (State → Prop)
def XW (U : xP) (G : xG) (pc : Nat) (L : List (Option xV)) (st : List xV) (M : xM) : Prop := match G with
  | (p, e, R, s, m, args, below, meth, c, A0, nL, cs, sl, Q) => ∀ (H : Heap) (locs : List Loc) (ls : Array Slot), va_P (xD U) classes (xWd U M) H → va_S A0 s.heap H locs → xL U ls nL L → W p (xl U) e R s m args below meth c H locs cs sl Q (F0 m pc ls (st.map (xcv U)))
/-- what holds all the way: the machine, the bytes, the class, the words, the world's shape, the room for calls of less than K deep -/
def xOK (U : xP) (G : xG) (own : String) (cc : ByteArray) (K : Nat) : Prop := match G with
  | (p, e, R, s, m, args, below, meth, c, A0, nL, cs, sl, Q) => p.tables.exec = Jvm.exec ∧ c.code = cc ∧ c.maxLocals = nL ∧ s.vm.findClass own = some m.cls ∧ (∀ w ∈ gw, w.before args s = true) ∧ va_K (xD U) classes (xtys U) s ∧ xDi U ∧ (∀ w ∈ xnw, va_Nw w s) ∧ (∀ k : Nat, k < 64 → A0 (xad U k)) ∧ K ≤ R.frames ∧ 30 * K ≤ R.locals ∧ cs ≤ R.cells ∧ sl ≤ R.slots
section XR
variable {U : xP} {G : xG} {own : String} {cc : ByteArray} {K pc : Nat} {L : List (Option xV)} {st : List xV} {M : xM}
theorem x_iload_n (hO : xOK U G own cc K) {k : Fin 4} {i : Nat} {x : Int32} (hd : decode cc pc = .ok (.iload_n k, 1)) (hi : (k : Nat) = i) (hl : L[i]? = some (some (.inl x))) (kk : XW U G (pc + 1) L (.inl x :: st) M) : XW U G pc L st M := by
  obtain ⟨p, e, R, s, m, args, below, meth, c, A0, nL, cs, sl, Q⟩ := G
  intro H locs ls hP hS hL
  exact lv_iload_n hO.1 hO.2.1 hd hi (hL.2.2 i _ hl) (kk H locs ls hP hS hL)
theorem x_iload (hO : xOK U G own cc K) {i : Nat} {x : Int32} (hd : decode cc pc = .ok (.iload i, 2)) (hl : L[i]? = some (some (.inl x))) (kk : XW U G (pc + 2) L (.inl x :: st) M) : XW U G pc L st M := by
  obtain ⟨p, e, R, s, m, args, below, meth, c, A0, nL, cs, sl, Q⟩ := G
  intro H locs ls hP hS hL
  exact lv_iload hO.1 hO.2.1 hd (hL.2.2 i _ hl) (kk H locs ls hP hS hL)
theorem x_aload_n (hO : xOK U G own cc K) {k : Fin 4} {i : Nat} {x : Nat} (hd : decode cc pc = .ok (.aload_n k, 1)) (hi : (k : Nat) = i) (hl : L[i]? = some (some (.inr x))) (kk : XW U G (pc + 1) L (.inr x :: st) M) : XW U G pc L st M := by
  obtain ⟨p, e, R, s, m, args, below, meth, c, A0, nL, cs, sl, Q⟩ := G
  intro H locs ls hP hS hL
  exact lv_aload_n hO.1 hO.2.1 hd hi (hL.2.2 i _ hl) (kk H locs ls hP hS hL)
theorem x_aload (hO : xOK U G own cc K) {i : Nat} {x : Nat} (hd : decode cc pc = .ok (.aload i, 2)) (hl : L[i]? = some (some (.inr x))) (kk : XW U G (pc + 2) L (.inr x :: st) M) : XW U G pc L st M := by
  obtain ⟨p, e, R, s, m, args, below, meth, c, A0, nL, cs, sl, Q⟩ := G
  intro H locs ls hP hS hL
  exact lv_aload hO.1 hO.2.1 hd (hL.2.2 i _ hl) (kk H locs ls hP hS hL)
theorem x_istore_n (hO : xOK U G own cc K) {k : Fin 4} {i n : Nat} {x : Int32} (hd : decode cc pc = .ok (.istore_n k, 1)) (hi : (k : Nat) = i) (hn : L.length = n) (hN : i < n) (hG : G.2.2.2.2.2.2.2.2.2.2.1 = n) (kk : XW U G (pc + 1) (L.set i (some (.inl x))) st M) : XW U G pc L (.inl x :: st) M := by
  obtain ⟨p, e, R, s, m, args, below, meth, c, A0, nL, cs, sl, Q⟩ := G
  intro H locs ls hP hS hL
  exact lv_istore_n hO.1 hO.2.1 hd hi (xas_has hL) (by rw [show nL = n from hG]; exact hN) rfl (fun ls' h => kk H locs ls' hP hS (xL.set (fun j v hj _ => xas_mem hj) h))
theorem x_istore (hO : xOK U G own cc K) {i n : Nat} {x : Int32} (hd : decode cc pc = .ok (.istore i, 2)) (hn : L.length = n) (hN : i < n) (hG : G.2.2.2.2.2.2.2.2.2.2.1 = n) (kk : XW U G (pc + 2) (L.set i (some (.inl x))) st M) : XW U G pc L (.inl x :: st) M := by
  obtain ⟨p, e, R, s, m, args, below, meth, c, A0, nL, cs, sl, Q⟩ := G
  intro H locs ls hP hS hL
  exact lv_istore hO.1 hO.2.1 hd (xas_has hL) (by rw [show nL = n from hG]; exact hN) rfl (fun ls' h => kk H locs ls' hP hS (xL.set (fun j v hj _ => xas_mem hj) h))
theorem x_iinc (hO : xOK U G own cc K) {i n : Nat} {z : Int} {x v : Int32} (hd : decode cc pc = .ok (.iinc i z, 3)) (hl : L[i]? = some (some (.inl x))) (hv : x + Int32.ofInt z = v) (hn : L.length = n) (hG : G.2.2.2.2.2.2.2.2.2.2.1 = n) (kk : XW U G (pc + 3) (L.set i (some (.inl v))) st M) : XW U G pc L st M := by
  obtain ⟨p, e, R, s, m, args, below, meth, c, A0, nL, cs, sl, Q⟩ := G
  intro H locs ls hP hS hL
  have h1 : lv_has ls nL ((i, Value.int x) :: xas U L) := ⟨hL.1, hL.2.1, fun q hq => by
    rcases List.mem_cons.mp hq with rfl | h
    · exact hL.2.2 i (.inl x) hl
    · exact (xas_has hL).2.2 q h⟩
  exact lv_iinc (k := 0) hO.1 hO.2.1 hd h1 rfl hv (by rw [show nL = n from hG, ← hn]; exact (List.getElem?_eq_some_iff.mp hl).1) rfl (fun ls' h => kk H locs ls' hP hS (xL.set (fun j w hj _ => List.mem_cons_of_mem _ (xas_mem hj)) h))
theorem x_iconst (hO : xOK U G own cc K) {z : Int} {v : Int32} (hd : decode cc pc = .ok (.iconst z, 1)) (hv : Int32.ofInt z = v) (kk : XW U G (pc + 1) L (.inl v :: st) M) : XW U G pc L st M := by
  obtain ⟨p, e, R, s, m, args, below, meth, c, A0, nL, cs, sl, Q⟩ := G
  intro H locs ls hP hS hL
  exact lv_iconst hO.1 hO.2.1 hd hv (kk H locs ls hP hS hL)
theorem x_bipush (hO : xOK U G own cc K) {z : Int} {v : Int32} (hd : decode cc pc = .ok (.bipush z, 2)) (hv : (Int8.ofInt z).toInt32 = v) (kk : XW U G (pc + 2) L (.inl v :: st) M) : XW U G pc L st M := by
  obtain ⟨p, e, R, s, m, args, below, meth, c, A0, nL, cs, sl, Q⟩ := G
  intro H locs ls hP hS hL
  exact lv_bipush hO.1 hO.2.1 hd hv (kk H locs ls hP hS hL)
theorem x_sipush (hO : xOK U G own cc K) {z : Int} {v : Int32} (hd : decode cc pc = .ok (.sipush z, 3)) (hv : (Int16.ofInt z).toInt32 = v) (kk : XW U G (pc + 3) L (.inl v :: st) M) : XW U G pc L st M := by
  obtain ⟨p, e, R, s, m, args, below, meth, c, A0, nL, cs, sl, Q⟩ := G
  intro H locs ls hP hS hL
  exact lv_sipush hO.1 hO.2.1 hd hv (kk H locs ls hP hS hL)
theorem x_ldcw (hO : xOK U G own cc K) {index : Nat} {v : Int32} (hc : Cond.constant own index v ∈ gw) (hd : decode cc pc = .ok (.ldc_w index, 3)) (kk : XW U G (pc + 3) L (.inl v :: st) M) : XW U G pc L st M := by
  obtain ⟨p, e, R, s, m, args, below, meth, c, A0, nL, cs, sl, Q⟩ := G
  intro H locs ls hP hS hL
  exact lv_ldcw hO.1 hO.2.1 hO.2.2.2.1 (hO.2.2.2.2.1 _ hc) hd (kk H locs ls hP hS hL)
theorem x_iadd (hO : xOK U G own cc K) {x y : Int32} (hd : decode cc pc = .ok (.iadd, 1)) (kk : XW U G (pc + 1) L (.inl (x + y) :: st) M) : XW U G pc L (.inl y :: .inl x :: st) M := by
  obtain ⟨p, e, R, s, m, args, below, meth, c, A0, nL, cs, sl, Q⟩ := G
  intro H locs ls hP hS hL
  exact lv_iadd hO.1 hO.2.1 hd (kk H locs ls hP hS hL)
theorem x_isub (hO : xOK U G own cc K) {x y : Int32} (hd : decode cc pc = .ok (.isub, 1)) (kk : XW U G (pc + 1) L (.inl (x - y) :: st) M) : XW U G pc L (.inl y :: .inl x :: st) M := by
  obtain ⟨p, e, R, s, m, args, below, meth, c, A0, nL, cs, sl, Q⟩ := G
  intro H locs ls hP hS hL
  exact lv_isub hO.1 hO.2.1 hd (kk H locs ls hP hS hL)
theorem x_imul (hO : xOK U G own cc K) {x y : Int32} (hd : decode cc pc = .ok (.imul, 1)) (kk : XW U G (pc + 1) L (.inl (x * y) :: st) M) : XW U G pc L (.inl y :: .inl x :: st) M := by
  obtain ⟨p, e, R, s, m, args, below, meth, c, A0, nL, cs, sl, Q⟩ := G
  intro H locs ls hP hS hL
  exact lv_imul hO.1 hO.2.1 hd (kk H locs ls hP hS hL)
theorem x_iand (hO : xOK U G own cc K) {x y : Int32} (hd : decode cc pc = .ok (.iand, 1)) (kk : XW U G (pc + 1) L (.inl (x &&& y) :: st) M) : XW U G pc L (.inl y :: .inl x :: st) M := by
  obtain ⟨p, e, R, s, m, args, below, meth, c, A0, nL, cs, sl, Q⟩ := G
  intro H locs ls hP hS hL
  exact lv_iand hO.1 hO.2.1 hd (kk H locs ls hP hS hL)
theorem x_ior (hO : xOK U G own cc K) {x y : Int32} (hd : decode cc pc = .ok (.ior, 1)) (kk : XW U G (pc + 1) L (.inl (x ||| y) :: st) M) : XW U G pc L (.inl y :: .inl x :: st) M := by
  obtain ⟨p, e, R, s, m, args, below, meth, c, A0, nL, cs, sl, Q⟩ := G
  intro H locs ls hP hS hL
  exact lv_ior hO.1 hO.2.1 hd (kk H locs ls hP hS hL)
theorem x_ixor (hO : xOK U G own cc K) {x y : Int32} (hd : decode cc pc = .ok (.ixor, 1)) (kk : XW U G (pc + 1) L (.inl (x ^^^ y) :: st) M) : XW U G pc L (.inl y :: .inl x :: st) M := by
  obtain ⟨p, e, R, s, m, args, below, meth, c, A0, nL, cs, sl, Q⟩ := G
  intro H locs ls hP hS hL
  exact lv_ixor hO.1 hO.2.1 hd (kk H locs ls hP hS hL)
theorem x_ishl (hO : xOK U G own cc K) {x y : Int32} (hd : decode cc pc = .ok (.ishl, 1)) (kk : XW U G (pc + 1) L (.inl (x <<< (y &&& 31)) :: st) M) : XW U G pc L (.inl y :: .inl x :: st) M := by
  obtain ⟨p, e, R, s, m, args, below, meth, c, A0, nL, cs, sl, Q⟩ := G
  intro H locs ls hP hS hL
  exact lv_ishl hO.1 hO.2.1 hd (kk H locs ls hP hS hL)
theorem x_ishr (hO : xOK U G own cc K) {x y : Int32} (hd : decode cc pc = .ok (.ishr, 1)) (kk : XW U G (pc + 1) L (.inl (x >>> (y &&& 31)) :: st) M) : XW U G pc L (.inl y :: .inl x :: st) M := by
  obtain ⟨p, e, R, s, m, args, below, meth, c, A0, nL, cs, sl, Q⟩ := G
  intro H locs ls hP hS hL
  exact lv_ishr hO.1 hO.2.1 hd (kk H locs ls hP hS hL)
theorem x_icmp_eq (hO : xOK U G own cc K) {x y : Int32} {off : Int} {tgt : Nat} (hd : decode cc pc = .ok (.if_icmp .eq off, 3)) (ht : (pc : Int) + off = (tgt : Int)) (kt : x = y → XW U G tgt L st M) (kf : ¬ (x = y) → XW U G (pc + 3) L st M) : XW U G pc L (.inl y :: .inl x :: st) M := by
  obtain ⟨p, e, R, s, m, args, below, meth, c, A0, nL, cs, sl, Q⟩ := G
  intro H locs ls hP hS hL
  exact lv_icmp_eq hO.1 hO.2.1 hd ht (fun q => kt q H locs ls hP hS hL) (fun q => kf q H locs ls hP hS hL)
theorem x_if_eq (hO : xOK U G own cc K) {x : Int32} {off : Int} {tgt : Nat} (hd : decode cc pc = .ok (.ifCond .eq off, 3)) (ht : (pc : Int) + off = (tgt : Int)) (kt : x = 0 → XW U G tgt L st M) (kf : ¬ (x = 0) → XW U G (pc + 3) L st M) : XW U G pc L (.inl x :: st) M := by
  obtain ⟨p, e, R, s, m, args, below, meth, c, A0, nL, cs, sl, Q⟩ := G
  intro H locs ls hP hS hL
  exact lv_if_eq hO.1 hO.2.1 hd ht (fun q => kt q H locs ls hP hS hL) (fun q => kf q H locs ls hP hS hL)
theorem x_icmp_ne (hO : xOK U G own cc K) {x y : Int32} {off : Int} {tgt : Nat} (hd : decode cc pc = .ok (.if_icmp .ne off, 3)) (ht : (pc : Int) + off = (tgt : Int)) (kt : x ≠ y → XW U G tgt L st M) (kf : x = y → XW U G (pc + 3) L st M) : XW U G pc L (.inl y :: .inl x :: st) M := by
  obtain ⟨p, e, R, s, m, args, below, meth, c, A0, nL, cs, sl, Q⟩ := G
  intro H locs ls hP hS hL
  exact lv_icmp_ne hO.1 hO.2.1 hd ht (fun q => kt q H locs ls hP hS hL) (fun q => kf q H locs ls hP hS hL)
theorem x_if_ne (hO : xOK U G own cc K) {x : Int32} {off : Int} {tgt : Nat} (hd : decode cc pc = .ok (.ifCond .ne off, 3)) (ht : (pc : Int) + off = (tgt : Int)) (kt : x ≠ 0 → XW U G tgt L st M) (kf : x = 0 → XW U G (pc + 3) L st M) : XW U G pc L (.inl x :: st) M := by
  obtain ⟨p, e, R, s, m, args, below, meth, c, A0, nL, cs, sl, Q⟩ := G
  intro H locs ls hP hS hL
  exact lv_if_ne hO.1 hO.2.1 hd ht (fun q => kt q H locs ls hP hS hL) (fun q => kf q H locs ls hP hS hL)
theorem x_icmp_lt (hO : xOK U G own cc K) {x y : Int32} {off : Int} {tgt : Nat} (hd : decode cc pc = .ok (.if_icmp .lt off, 3)) (ht : (pc : Int) + off = (tgt : Int)) (kt : x < y → XW U G tgt L st M) (kf : ¬ (x < y) → XW U G (pc + 3) L st M) : XW U G pc L (.inl y :: .inl x :: st) M := by
  obtain ⟨p, e, R, s, m, args, below, meth, c, A0, nL, cs, sl, Q⟩ := G
  intro H locs ls hP hS hL
  exact lv_icmp_lt hO.1 hO.2.1 hd ht (fun q => kt q H locs ls hP hS hL) (fun q => kf q H locs ls hP hS hL)
theorem x_if_lt (hO : xOK U G own cc K) {x : Int32} {off : Int} {tgt : Nat} (hd : decode cc pc = .ok (.ifCond .lt off, 3)) (ht : (pc : Int) + off = (tgt : Int)) (kt : x < 0 → XW U G tgt L st M) (kf : ¬ (x < 0) → XW U G (pc + 3) L st M) : XW U G pc L (.inl x :: st) M := by
  obtain ⟨p, e, R, s, m, args, below, meth, c, A0, nL, cs, sl, Q⟩ := G
  intro H locs ls hP hS hL
  exact lv_if_lt hO.1 hO.2.1 hd ht (fun q => kt q H locs ls hP hS hL) (fun q => kf q H locs ls hP hS hL)
theorem x_icmp_ge (hO : xOK U G own cc K) {x y : Int32} {off : Int} {tgt : Nat} (hd : decode cc pc = .ok (.if_icmp .ge off, 3)) (ht : (pc : Int) + off = (tgt : Int)) (kt : y ≤ x → XW U G tgt L st M) (kf : ¬ (y ≤ x) → XW U G (pc + 3) L st M) : XW U G pc L (.inl y :: .inl x :: st) M := by
  obtain ⟨p, e, R, s, m, args, below, meth, c, A0, nL, cs, sl, Q⟩ := G
  intro H locs ls hP hS hL
  exact lv_icmp_ge hO.1 hO.2.1 hd ht (fun q => kt q H locs ls hP hS hL) (fun q => kf q H locs ls hP hS hL)
theorem x_if_ge (hO : xOK U G own cc K) {x : Int32} {off : Int} {tgt : Nat} (hd : decode cc pc = .ok (.ifCond .ge off, 3)) (ht : (pc : Int) + off = (tgt : Int)) (kt : 0 ≤ x → XW U G tgt L st M) (kf : ¬ (0 ≤ x) → XW U G (pc + 3) L st M) : XW U G pc L (.inl x :: st) M := by
  obtain ⟨p, e, R, s, m, args, below, meth, c, A0, nL, cs, sl, Q⟩ := G
  intro H locs ls hP hS hL
  exact lv_if_ge hO.1 hO.2.1 hd ht (fun q => kt q H locs ls hP hS hL) (fun q => kf q H locs ls hP hS hL)
theorem x_icmp_gt (hO : xOK U G own cc K) {x y : Int32} {off : Int} {tgt : Nat} (hd : decode cc pc = .ok (.if_icmp .gt off, 3)) (ht : (pc : Int) + off = (tgt : Int)) (kt : y < x → XW U G tgt L st M) (kf : ¬ (y < x) → XW U G (pc + 3) L st M) : XW U G pc L (.inl y :: .inl x :: st) M := by
  obtain ⟨p, e, R, s, m, args, below, meth, c, A0, nL, cs, sl, Q⟩ := G
  intro H locs ls hP hS hL
  exact lv_icmp_gt hO.1 hO.2.1 hd ht (fun q => kt q H locs ls hP hS hL) (fun q => kf q H locs ls hP hS hL)
theorem x_if_gt (hO : xOK U G own cc K) {x : Int32} {off : Int} {tgt : Nat} (hd : decode cc pc = .ok (.ifCond .gt off, 3)) (ht : (pc : Int) + off = (tgt : Int)) (kt : 0 < x → XW U G tgt L st M) (kf : ¬ (0 < x) → XW U G (pc + 3) L st M) : XW U G pc L (.inl x :: st) M := by
  obtain ⟨p, e, R, s, m, args, below, meth, c, A0, nL, cs, sl, Q⟩ := G
  intro H locs ls hP hS hL
  exact lv_if_gt hO.1 hO.2.1 hd ht (fun q => kt q H locs ls hP hS hL) (fun q => kf q H locs ls hP hS hL)
theorem x_icmp_le (hO : xOK U G own cc K) {x y : Int32} {off : Int} {tgt : Nat} (hd : decode cc pc = .ok (.if_icmp .le off, 3)) (ht : (pc : Int) + off = (tgt : Int)) (kt : x ≤ y → XW U G tgt L st M) (kf : ¬ (x ≤ y) → XW U G (pc + 3) L st M) : XW U G pc L (.inl y :: .inl x :: st) M := by
  obtain ⟨p, e, R, s, m, args, below, meth, c, A0, nL, cs, sl, Q⟩ := G
  intro H locs ls hP hS hL
  exact lv_icmp_le hO.1 hO.2.1 hd ht (fun q => kt q H locs ls hP hS hL) (fun q => kf q H locs ls hP hS hL)
theorem x_if_le (hO : xOK U G own cc K) {x : Int32} {off : Int} {tgt : Nat} (hd : decode cc pc = .ok (.ifCond .le off, 3)) (ht : (pc : Int) + off = (tgt : Int)) (kt : x ≤ 0 → XW U G tgt L st M) (kf : ¬ (x ≤ 0) → XW U G (pc + 3) L st M) : XW U G pc L (.inl x :: st) M := by
  obtain ⟨p, e, R, s, m, args, below, meth, c, A0, nL, cs, sl, Q⟩ := G
  intro H locs ls hP hS hL
  exact lv_if_le hO.1 hO.2.1 hd ht (fun q => kt q H locs ls hP hS hL) (fun q => kf q H locs ls hP hS hL)
theorem x_idiv (hO : xOK U G own cc K) {x y : Int32} (hd : decode cc pc = .ok (.idiv, 1)) (hne : ¬ y = 0) (kk : XW U G (pc + 1) L (.inl (x / y) :: st) M) : XW U G pc L (.inl y :: .inl x :: st) M := by
  obtain ⟨p, e, R, s, m, args, below, meth, c, A0, nL, cs, sl, Q⟩ := G
  intro H locs ls hP hS hL
  exact lv_idiv hO.1 hO.2.1 hd hne (kk H locs ls hP hS hL)
theorem x_irem (hO : xOK U G own cc K) {x y : Int32} (hd : decode cc pc = .ok (.irem, 1)) (hne : ¬ y = 0) (kk : XW U G (pc + 1) L (.inl (x - x / y * y) :: st) M) : XW U G pc L (.inl y :: .inl x :: st) M := by
  obtain ⟨p, e, R, s, m, args, below, meth, c, A0, nL, cs, sl, Q⟩ := G
  intro H locs ls hP hS hL
  exact lv_irem hO.1 hO.2.1 hd hne (kk H locs ls hP hS hL)
theorem x_iushr (hO : xOK U G own cc K) {x y v : Int32} (hd : decode cc pc = .ok (.iushr, 1)) (hv : (x.toUInt32 >>> (y.toUInt32 &&& Int32.toUInt32 31)).toInt32 = v) (kk : XW U G (pc + 1) L (.inl v :: st) M) : XW U G pc L (.inl y :: .inl x :: st) M := by
  obtain ⟨p, e, R, s, m, args, below, meth, c, A0, nL, cs, sl, Q⟩ := G
  intro H locs ls hP hS hL
  exact lv_iushr hO.1 hO.2.1 hd hv (kk H locs ls hP hS hL)
theorem x_i2c (hO : xOK U G own cc K) {x v : Int32} (hd : decode cc pc = .ok (.i2c, 1)) (hv : (x.toUInt32 % 65536).toInt32 = v) (kk : XW U G (pc + 1) L (.inl v :: st) M) : XW U G pc L (.inl x :: st) M := by
  obtain ⟨p, e, R, s, m, args, below, meth, c, A0, nL, cs, sl, Q⟩ := G
  intro H locs ls hP hS hL
  exact lv_i2c hO.1 hO.2.1 hd hv (kk H locs ls hP hS hL)
theorem x_dup (hO : xOK U G own cc K) {v : xV} (hd : decode cc pc = .ok (.dup, 1)) (kk : XW U G (pc + 1) L (v :: v :: st) M) : XW U G pc L (v :: st) M := by
  obtain ⟨p, e, R, s, m, args, below, meth, c, A0, nL, cs, sl, Q⟩ := G
  intro H locs ls hP hS hL
  exact lv_dup hO.1 hO.2.1 hd (xcv_cat U v) (kk H locs ls hP hS hL)
theorem x_dup2 (hO : xOK U G own cc K) {v w : xV} (hd : decode cc pc = .ok (.dup2, 1)) (kk : XW U G (pc + 1) L (v :: w :: v :: w :: st) M) : XW U G pc L (v :: w :: st) M := by
  obtain ⟨p, e, R, s, m, args, below, meth, c, A0, nL, cs, sl, Q⟩ := G
  intro H locs ls hP hS hL
  exact lv_dup2_11 hO.1 hO.2.1 hd (xcv_cat U v) (xcv_cat U w) (kk H locs ls hP hS hL)
theorem x_pop (hO : xOK U G own cc K) {v : xV} (hd : decode cc pc = .ok (.pop, 1)) (kk : XW U G (pc + 1) L st M) : XW U G pc L (v :: st) M := by
  obtain ⟨p, e, R, s, m, args, below, meth, c, A0, nL, cs, sl, Q⟩ := G
  intro H locs ls hP hS hL
  exact lv_pop hO.1 hO.2.1 hd (xcv_cat U v) (kk H locs ls hP hS hL)
theorem x_goto (hO : xOK U G own cc K) {off : Int} {tgt : Nat} (hd : decode cc pc = .ok (.goto off, 3)) (ht : (pc : Int) + off = (tgt : Int)) (kk : XW U G tgt L st M) : XW U G pc L st M := by
  obtain ⟨p, e, R, s, m, args, below, meth, c, A0, nL, cs, sl, Q⟩ := G
  intro H locs ls hP hS hL
  exact lv_goto hO.1 hO.2.1 hd ht (kk H locs ls hP hS hL)
theorem x_ifnull (hO : xOK U G own cc K) {off : Int} {k : Nat} (hd : decode cc pc = .ok (.ifnull off, 3)) (kk : XW U G (pc + 3) L st M) : XW U G pc L (.inr k :: st) M := by
  obtain ⟨p, e, R, s, m, args, below, meth, c, A0, nL, cs, sl, Q⟩ := G
  intro H locs ls hP hS hL
  exact lv_ifnull hO.1 hO.2.1 hd (kk H locs ls hP hS hL)
theorem x_tableIn (hO : xOK U G own cc K) {dflt lo hi : Int} {offs : Array Int} {len : Nat} {x : Int32} {off : Int} {tgt : Nat} (hd : decode cc pc = .ok (.tableswitch dflt lo hi offs, len)) (h1 : ¬ x.toInt < lo) (h2 : ¬ hi < x.toInt) (ho : offs[(x.toInt - lo).toNat]? = some off) (ht : (pc : Int) + off = (tgt : Int)) (kk : XW U G tgt L st M) : XW U G pc L (.inl x :: st) M := by
  obtain ⟨p, e, R, s, m, args, below, meth, c, A0, nL, cs, sl, Q⟩ := G
  intro H locs ls hP hS hL
  exact lv_tableIn hO.1 hO.2.1 hd h1 h2 ho ht (kk H locs ls hP hS hL)
theorem x_tableOut (hO : xOK U G own cc K) {dflt lo hi : Int} {offs : Array Int} {len : Nat} {x : Int32} {tgt : Nat} (hd : decode cc pc = .ok (.tableswitch dflt lo hi offs, len)) (h : x.toInt < lo ∨ hi < x.toInt) (ht : (pc : Int) + dflt = (tgt : Int)) (kk : XW U G tgt L st M) : XW U G pc L (.inl x :: st) M := by
  obtain ⟨p, e, R, s, m, args, below, meth, c, A0, nL, cs, sl, Q⟩ := G
  intro H locs ls hP hS hL
  exact lv_tableOut hO.1 hO.2.1 hd h ht (kk H locs ls hP hS hL)
theorem x_iald0 (hO : xOK U G own cc K) {k n : Nat} {i : Int32} (hk : k < 64) (hs : xsh k = .inl n) (hin : vp_in i n) (hd : decode cc pc = .ok (.iaload, 1)) (kk : XW U G (pc + 1) L (.inl (M k i.toNatClampNeg) :: st) M) : XW U G pc L (.inl i :: .inr k :: st) M := by
  obtain ⟨p, e, R, s, m, args, below, meth, c, A0, nL, cs, sl, Q⟩ := G
  intro H locs ls hP hS hL
  exact va_iald hO.1 hO.2.1 hO.2.2.2.2.2.1 hP k 0 (cA := xcI U) (n := n) (f := M k) (by rw [xWd_get U M hk, hs]; rfl) rfl hin hd (kk H locs ls hP hS hL)
theorem x_alen (hO : xOK U G own cc K) {k n : Nat} (hk : k < 64) (hs : xsh k = .inl n) (hd : decode cc pc = .ok (.arraylength, 1)) (kk : XW U G (pc + 1) L (.inl (nI n) :: st) M) : XW U G pc L (.inr k :: st) M := by
  obtain ⟨p, e, R, s, m, args, below, meth, c, A0, nL, cs, sl, Q⟩ := G
  intro H locs ls hP hS hL
  exact va_alen hO.1 hO.2.1 hO.2.2.2.2.2.1 hP k 0 (cA := xcI U) (x := (n, .inl (M k))) (ty := .int) (by rw [xWd_get U M hk, hs]; rfl) rfl rfl hd (kk H locs ls hP hS hL)
theorem x_aald (hO : xOK U G own cc K) {k t : Nat} {ts : List Nat} {i : Int32} (hk : k < 64) (hs : xsh k = .inr (.inl ts)) (hin : vp_in i ts.length) (ht : ts[i.toNatClampNeg]? = some t) (hd : decode cc pc = .ok (.aaload, 1)) (kk : XW U G (pc + 1) L (.inr t :: st) M) : XW U G pc L (.inl i :: .inr k :: st) M := by
  obtain ⟨p, e, R, s, m, args, below, meth, c, A0, nL, cs, sl, Q⟩ := G
  intro H locs ls hP hS hL
  refine va_aldq hO.1 hO.2.1 hO.2.2.2.2.2.1 hP k 1 (cA := xcQ U) (C := RX1) (n := ts.length) (f := fun j => (ts[j]?).map (xad U)) (by rw [xWd_get U M hk, hs]; rfl) rfl hin hd ?_
  have := kk H locs ls hP hS hL
  simpa [ht, va_rf, xcv] using this
theorem x_iast0 (hO : xOK U G own cc K) {k n : Nat} {i x : Int32} (hk : k < 64) (hs : xsh k = .inl n) (hin : vp_in i n) (hd : decode cc pc = .ok (.iastore, 1)) (kk : XW U G (pc + 1) L st (xset M k i.toNatClampNeg x)) : XW U G pc L (.inl x :: .inl i :: .inr k :: st) M := by
  obtain ⟨p, e, R, s, m, args, below, meth, c, A0, nL, cs, sl, Q⟩ := G
  intro H locs ls hP hS hL
  refine va_iast hO.1 hO.2.1 hO.2.2.2.2.2.1 hP (hO.2.2.2.2.2.2.1.D M hO.2.2.2.2.2.2.2.2.1) hS k 0 (cA := xcI U) (n := n) (f := M k) (by rw [xWd_get U M hk, hs]; rfl) rfl hin hd (fun H1 locs1 hP1 _ hS1 => ?_)
  refine kk H1 locs1 ls ?_ hS1 hL
  have e : (xad U k, (.inl (xcI U, n, .inl (upd (M k) i.toNatClampNeg x)) : va_E)) = (xad U k, xce U (upd (M k) i.toNatClampNeg x) (xsh k)) := by rw [hs]; rfl
  rw [e, xWd_set U M hk] at hP1
  exact hP1
theorem x_iald (hO : xOK U G own cc K) {k n j : Nat} {i : Int32} (hk : k < 64) (hs : xsh k = .inl n) (hn : n < 2 ^ 31) (hi : i = nI j) (hj : j < n) (hd : decode cc pc = .ok (.iaload, 1)) (kk : XW U G (pc + 1) L (.inl (M k j) :: st) M) : XW U G pc L (.inl i :: .inr k :: st) M := by
  subst hi
  refine x_iald0 hO hk hs (vp_in_nI hj hn) hd ?_
  rw [nI_clamp (by omega)]
  exact kk
theorem x_iast (hO : xOK U G own cc K) {k n j : Nat} {i x : Int32} (hk : k < 64) (hs : xsh k = .inl n) (hn : n < 2 ^ 31) (hi : i = nI j) (hj : j < n) (hd : decode cc pc = .ok (.iastore, 1)) (kk : XW U G (pc + 1) L st (xset M k j x)) : XW U G pc L (.inl x :: .inl i :: .inr k :: st) M := by
  subst hi
  refine x_iast0 hO hk hs (vp_in_nI hj hn) hd ?_
  rw [nI_clamp (by omega)]
  exact kk
def x_hin {ci : Nat} {q : vw_C} (h : classes[ci]? = some q) : ∀ w ∈ u_ws q.1 q.2.1 q.2.2, w ∈ gw := by
  match ci, h with
  | 0, h => cases h; exact iwX0
  | 1, h => cases h; exact iwX1
  | 2, h => cases h; exact iwX2
  | 3, h => cases h; exact iwX3
  | 4, h => cases h; exact iwX4
  | k + 5, h => simp [classes] at h
theorem x_tyn {ci : Nat} {q : vw_C} (h : classes[ci]? = some q) : ∃ ty0 : Nat → FieldType, (∀ k, k < q.2.2 → parseFieldDescriptor (q.2.1 k).2.2.1 = some (ty0 k)) ∧ (∀ a, a < q.2.2 → ∀ b, b < q.2.2 → a ≠ b → (q.2.1 a).2.1 ≠ (q.2.1 b).2.1) := by
  match ci, h with
  | 0, h => cases h; exact ⟨tyX0, tyX0_ok, nmX0⟩
  | 1, h => cases h; exact ⟨tyX1, tyX1_ok, nmX1⟩
  | 2, h => cases h; exact ⟨tyX2, tyX2_ok, nmX2⟩
  | 3, h => cases h; exact ⟨tyX3, tyX3_ok, nmX3⟩
  | 4, h => cases h; exact ⟨tyX4, tyX4_ok, nmX4⟩
  | k + 5, h => simp [classes] at h
theorem x_getI (hO : xOK U G own cc K) {k ci j N index : Nat} {fs : List (Option Nat)} {C : String} {T : u_T} (hd : decode cc pc = .ok (.getfield index, 3)) (hlk : Cond.fieldLink own index C (T j).2.1 (T j).2.2.1 ∈ gw) (hk : k < 64) (hs : xsh k = .inr (.inr (ci, fs))) (hc : classes[ci]? = some (C, T, N)) (hj : j < N) (hC : (T j).1 = C) (hf : fs[j]? = some none) (kk : XW U G (pc + 3) L (.inl (M k j) :: st) M) : XW U G pc L (.inr k :: st) M := by
  obtain ⟨p, e, R, s, m, args, below, meth, c, A0, nL, cs, sl, Q⟩ := G
  intro H locs ls hP hS hL
  refine va_get (D := xD U) (ci := ci) (v := xcv U (.inl (M k j))) (C := C) (T := T) (N := N) hO.1 hO.2.1 hO.2.2.2.2.1 (x_hin hc) hO.2.2.2.1 hO.2.2.2.2.2.1 hP k (fs := xfv U (M k) fs) (by rw [xWd_get U M hk, hs]; rfl) hc j hj (hO.2.2.2.2.1 _ hlk) (fun x h => by rw [hC] at h; exact h) ?_ hd (kk H locs ls hP hS hL)
  rw [xfv_get U _ _ (List.getElem?_eq_some_iff.mp hf).1]
  simp only [xfo, hf, xcv]
theorem x_getR (hO : xOK U G own cc K) {k ci j N index : Nat} {t : Nat} {fs : List (Option Nat)} {C : String} {T : u_T} (hd : decode cc pc = .ok (.getfield index, 3)) (hlk : Cond.fieldLink own index C (T j).2.1 (T j).2.2.1 ∈ gw) (hk : k < 64) (hs : xsh k = .inr (.inr (ci, fs))) (hc : classes[ci]? = some (C, T, N)) (hj : j < N) (hC : (T j).1 = C) (hf : fs[j]? = some (some t)) (kk : XW U G (pc + 3) L (.inr t :: st) M) : XW U G pc L (.inr k :: st) M := by
  obtain ⟨p, e, R, s, m, args, below, meth, c, A0, nL, cs, sl, Q⟩ := G
  intro H locs ls hP hS hL
  refine va_get (D := xD U) (ci := ci) (v := xcv U (.inr t)) (C := C) (T := T) (N := N) hO.1 hO.2.1 hO.2.2.2.2.1 (x_hin hc) hO.2.2.2.1 hO.2.2.2.2.2.1 hP k (fs := xfv U (M k) fs) (by rw [xWd_get U M hk, hs]; rfl) hc j hj (hO.2.2.2.2.1 _ hlk) (fun x h => by rw [hC] at h; exact h) ?_ hd (kk H locs ls hP hS hL)
  rw [xfv_get U _ _ (List.getElem?_eq_some_iff.mp hf).1]
  simp only [xfo, hf, xcv]
theorem x_getNI (hO : xOK U G own cc K) {k ci j N index : Nat} {fs : List (Option Nat)} {C host : String} {T : u_T} (hd : decode cc pc = .ok (.getfield index, 3)) (hlk : Cond.fieldLinkNest own index C (T j).2.1 (T j).2.2.1 host ∈ xnw) (hk : k < 64) (hs : xsh k = .inr (.inr (ci, fs))) (hc : classes[ci]? = some (C, T, N)) (hj : j < N) (hC : (T j).1 = C) (hf : fs[j]? = some none) (kk : XW U G (pc + 3) L (.inl (M k j) :: st) M) : XW U G pc L (.inr k :: st) M := by
  obtain ⟨p, e, R, s, m, args, below, meth, c, A0, nL, cs, sl, Q⟩ := G
  intro H locs ls hP hS hL
  refine va_getN (D := xD U) (ci := ci) (v := xcv U (.inl (M k j))) (C := C) (T := T) (N := N) hO.1 hO.2.1 hO.2.2.2.2.1 (x_hin hc) hO.2.2.2.1 hO.2.2.2.2.2.1 hP k (fs := xfv U (M k) fs) (by rw [xWd_get U M hk, hs]; rfl) hc j hj (va_Nw.use rfl (hO.2.2.2.2.2.2.2.1 _ hlk)) (fun x h => by rw [hC] at h; exact h) ?_ hd (kk H locs ls hP hS hL)
  rw [xfv_get U _ _ (List.getElem?_eq_some_iff.mp hf).1]
  simp only [xfo, hf, xcv]
theorem x_getNR (hO : xOK U G own cc K) {k ci j N index : Nat} {t : Nat} {fs : List (Option Nat)} {C host : String} {T : u_T} (hd : decode cc pc = .ok (.getfield index, 3)) (hlk : Cond.fieldLinkNest own index C (T j).2.1 (T j).2.2.1 host ∈ xnw) (hk : k < 64) (hs : xsh k = .inr (.inr (ci, fs))) (hc : classes[ci]? = some (C, T, N)) (hj : j < N) (hC : (T j).1 = C) (hf : fs[j]? = some (some t)) (kk : XW U G (pc + 3) L (.inr t :: st) M) : XW U G pc L (.inr k :: st) M := by
  obtain ⟨p, e, R, s, m, args, below, meth, c, A0, nL, cs, sl, Q⟩ := G
  intro H locs ls hP hS hL
  refine va_getN (D := xD U) (ci := ci) (v := xcv U (.inr t)) (C := C) (T := T) (N := N) hO.1 hO.2.1 hO.2.2.2.2.1 (x_hin hc) hO.2.2.2.1 hO.2.2.2.2.2.1 hP k (fs := xfv U (M k) fs) (by rw [xWd_get U M hk, hs]; rfl) hc j hj (va_Nw.use rfl (hO.2.2.2.2.2.2.2.1 _ hlk)) (fun x h => by rw [hC] at h; exact h) ?_ hd (kk H locs ls hP hS hL)
  rw [xfv_get U _ _ (List.getElem?_eq_some_iff.mp hf).1]
  simp only [xfo, hf, xcv]
theorem x_put (hO : xOK U G own cc K) {k ci j N index : Nat} {fs : List (Option Nat)} {C : String} {T : u_T} {ty : FieldType} {x : Int32} (hd : decode cc pc = .ok (.putfield index, 3)) (hlk : Cond.fieldLink own index C (T j).2.1 (T j).2.2.1 ∈ gw) (hk : k < 64) (hs : xsh k = .inr (.inr (ci, fs))) (hc : classes[ci]? = some (C, T, N)) (hj : j < N) (hC : (T j).1 = C) (hf : fs[j]? = some none) (hfin : (T j).2.2.2 = false) (hty : parseFieldDescriptor (T j).2.2.1 = some ty) (hn : narrow ty (.int x) = .int x) (hfit : fits ty (.int x) = true) (kk : XW U G (pc + 3) L st (xset M k j x)) : XW U G pc L (.inl x :: .inr k :: st) M := by
  obtain ⟨p, e, R, s, m, args, below, meth, c, A0, nL, cs, sl, Q⟩ := G
  intro H locs ls hP hS hL
  obtain ⟨ty0, ht0, hnm⟩ := x_tyn hc
  refine va_put (D := xD U) (ci := ci) (v := .int x) (C := C) (T := T) (N := N) hO.1 hO.2.1 hO.2.2.2.2.1 (x_hin hc) ty0 ht0 hnm hO.2.2.2.1 hO.2.2.2.2.2.1 hP (hO.2.2.2.2.2.2.1.D M hO.2.2.2.2.2.2.2.2.1) hS k (fs := xfv U (M k) fs) (by rw [xWd_get U M hk, hs]; rfl) hc j hj (hO.2.2.2.2.1 _ hlk) (fun x h => by rw [hC] at h; exact h) hfin hty hn hfit (by simp only [xfv, List.length_map, List.length_range]; exact (List.getElem?_eq_some_iff.mp hf).1) hd (fun H1 locs1 hP1 _ hS1 => ?_)
  refine kk H1 locs1 ls ?_ hS1 hL
  have e : (xad U k, (.inr (ci, (xfv U (M k) fs).set j (.int x)) : va_E)) = (xad U k, xce U (upd (M k) j x) (xsh k)) := by rw [hs, xfv_set U _ _ hf]; rfl
  rw [e, xWd_set U M hk] at hP1
  exact hP1
theorem x_putN (hO : xOK U G own cc K) {k ci j N index : Nat} {fs : List (Option Nat)} {C host : String} {T : u_T} {ty : FieldType} {x : Int32} (hd : decode cc pc = .ok (.putfield index, 3)) (hlk : Cond.fieldLinkNest own index C (T j).2.1 (T j).2.2.1 host ∈ xnw) (hk : k < 64) (hs : xsh k = .inr (.inr (ci, fs))) (hc : classes[ci]? = some (C, T, N)) (hj : j < N) (hC : (T j).1 = C) (hf : fs[j]? = some none) (hfin : (T j).2.2.2 = false) (hty : parseFieldDescriptor (T j).2.2.1 = some ty) (hn : narrow ty (.int x) = .int x) (hfit : fits ty (.int x) = true) (kk : XW U G (pc + 3) L st (xset M k j x)) : XW U G pc L (.inl x :: .inr k :: st) M := by
  obtain ⟨p, e, R, s, m, args, below, meth, c, A0, nL, cs, sl, Q⟩ := G
  intro H locs ls hP hS hL
  obtain ⟨ty0, ht0, hnm⟩ := x_tyn hc
  refine va_putN (D := xD U) (ci := ci) (v := .int x) (C := C) (T := T) (N := N) hO.1 hO.2.1 hO.2.2.2.2.1 (x_hin hc) ty0 ht0 hnm hO.2.2.2.1 hO.2.2.2.2.2.1 hP (hO.2.2.2.2.2.2.1.D M hO.2.2.2.2.2.2.2.2.1) hS k (fs := xfv U (M k) fs) (by rw [xWd_get U M hk, hs]; rfl) hc j hj (va_Nw.use rfl (hO.2.2.2.2.2.2.2.1 _ hlk)) (fun x h => by rw [hC] at h; exact h) hfin hty hn hfit (by simp only [xfv, List.length_map, List.length_range]; exact (List.getElem?_eq_some_iff.mp hf).1) hd (fun H1 locs1 hP1 _ hS1 => ?_)
  refine kk H1 locs1 ls ?_ hS1 hL
  have e : (xad U k, (.inr (ci, (xfv U (M k) fs).set j (.int x)) : va_E)) = (xad U k, xce U (upd (M k) j x) (xsh k)) := by rw [hs, xfv_set U _ _ hf]; rfl
  rw [e, xWd_set U M hk] at hP1
  exact hP1
end XR
/-! contracts -/
def xrm (k : Nat) : Room := { frames := k, cells := 0, slots := 0, locals := 30 * k }
def xPre (U : xP) (M : xM) : State → Prop := fun X => va_P (xD U) classes (xWd U M) X.heap ∧ va_K (xD U) classes (xtys U) X ∧ xDi U ∧ ∀ w ∈ xnw, va_Nw w X
def xPost (U : xP) : xM → State → Prop := fun M t => va_P (xD U) classes (xWd U M) t.heap
def xws (mi : xMI) : List Cond := Cond.code mi.1 mi.2.1 mi.2.2.1 mi.2.2.2.1 :: gw
/-- from the numbers M and these arguments: it returns an int, with the numbers M', of which post holds -/
def xMetI (U : xP) (mi : xMI) (av : List xV) (M : xM) (post : Int32 → xM → Prop) : Prop := Met (xl U) mi.1 (xws mi) (xrm mi.2.2.2.2) (va_Pc (av.map (xcv U)) (xPre U M)) (va_Qi post (xPost U) (xA U)) 0 0 (xA U)
def xMetV (U : xP) (mi : xMI) (av : List xV) (M : xM) (post : xM → Prop) : Prop := Met (xl U) mi.1 (xws mi) (xrm mi.2.2.2.2) (va_Pc (av.map (xcv U)) (xPre U M)) (va_Qv post (xPost U) (xA U)) 0 0 (xA U)
theorem xPre.blind {U : xP} {M : xM} {av : List Value} : FrameBlind (va_Pc av (xPre U M)) := fun a X g mk q => by
  obtain ⟨q0, q1, q2, q3, q4⟩ := q
  refine ⟨q0, q1, va_K.moved (u := X) (U := X.calling g mk a) (Vm.Alike.refl X.vm) q2, q3, fun w hw => ?_⟩
  have ht : w.onTables = true := by
    have := (List.mem_filter.mp hw).2
    cases w <;> first | rfl | (simp [xisNest] at this)
  exact va_Nw.same (u := X) (U := X.calling g mk a) ht rfl (q4 w hw)
theorem xPre.warm {U : xP} {M : xM} {s : State} {H : Heap} {X : State} (hX : X.heap = H) (hW : s.WarmedH X.vm) (hP : va_P (xD U) classes (xWd U M) H) (hK : va_K (xD U) classes (xtys U) s) (hDi : xDi U) (hn : ∀ w ∈ xnw, va_Nw w s) : xPre U M X := by
  refine ⟨by rw [hX]; exact hP, va_K.moved hW.alike hK, hDi, fun w hw => ?_⟩
  have h1 := hn w hw
  have h2 := (List.mem_filter.mp hw).2
  cases w <;> first | (simp [xisNest] at h2; done) | exact va_Nw.warmM hW h1 | exact va_Nw.warmF hW h1
theorem xws_good (mi : xMI) {n : Nat} (h : xCal mi n) : GoodIn gw (xws mi) := fun w hw => by
  rcases List.mem_cons.mp hw with rfl | hw
  · exact ⟨h.1, Or.inl rfl⟩
  · exact ⟨hw, good_of_word (List.mem_filter.mp hw).2⟩
section XC
variable {U : xP} {G : xG} {own : String} {cc : ByteArray} {K pc : Nat} {L : List (Option xV)} {st rest : List xV} {M : xM}
theorem x_room {R : Room} {k nL K : Nat} (h1 : K ≤ R.frames) (h2 : 30 * K ≤ R.locals) (hk : k < K) (hn : nL ≤ 11) : (xrm k).frames + 1 ≤ R.frames ∧ 8 + (nL + 11) + (xrm k).locals ≤ R.locals := by
  show k + 1 ≤ R.frames ∧ 8 + (nL + 11) + 30 * k ≤ R.locals
  omega
theorem x_rest (U : xP) : ∀ r : List xV, ((r.map (xcv U)).map fun v => v.category).sum = r.length
  | [] => rfl
  | a :: r => by
    have h := x_rest U r
    simp only [List.map_cons, List.sum_cons, List.length_cons, xcv_cat, h]
    omega
theorem x_callV (hO : xOK U G own cc K) {mi : xMI} {n index b ci : Nat} {fs : List (Option Nat)} {C : String} {T : u_T} {N : Nat} {av : List xV} {post : Int32 → xM → Prop} (hM : xMetI U mi (.inr b :: av) M post) (hd : decode cc pc = .ok (.invokevirtual index, 3)) (hlk : Cond.methodLink own index mi.1 ∈ gw) (hcal : xCal mi n) (hvir : xVir mi) (hk : b < 64) (hs : xsh b = .inr (.inr (ci, fs))) (hc : classes[ci]? = some (C, T, N)) (hC : mi.1.cls = C) (hn : av.length = n) (hst : st = av.reverse ++ .inr b :: rest) (hlev : mi.2.2.2.2 < K) (hr : rest.length ≤ 8) (kk : ∀ (r : Int32) (M' : xM), post r M' → XW U G (pc + 3) L (.inl r :: rest) M') : XW U G pc L st M := by
  obtain ⟨p, e, R, s, m, args, below, meth, c, A0, nL, cs, sl, Q⟩ := G
  intro H locs ls hP hS hL
  obtain ⟨o1, o2, o3, o4, o5, o6, o7, o8, o9, o10, o11, o12, o13⟩ := hO
  have cw : CallW R s args own C index mi.1 mi.2.1 mi.2.2.1 mi.2.2.2.1 (xws mi) (xrm mi.2.2.2.2) 0 0 n := ⟨callB_of n o5 (xws_good mi hcal) rfl rfl rfl (o5 _ hcal.2.1) (o5 _ hlk) hcal.2.2.1 (x_room o10 o11 hlev hcal.2.2.2.2), o5 _ hvir.1, by rw [← hC]; exact o5 _ hvir.2⟩
  refine va_calli (va_runV (C := C) (As := av.map (xcv U)) (rest := rest.map (xcv U)) ⟨o1, o2, o3, o4, o5⟩ hM cw ⟨xPre.blind, va_recv o6 hP (ci := ci) (q0 := b) hc (by rw [xWd_get U M hk, hs]; rfl), fun X hX hW => ⟨rfl, xPre.warm hX hW hP o6 o7 o8⟩⟩ rfl (by simpa using hn) hL.1 (by subst hst; simp [xcv]) (lv_room (by rw [x_rest]; exact hr)) hd ⟨o12, o13⟩) hS (fun q _ ⟨k, h1, h2⟩ => by rw [h2]; exact o9 k h1) (fun q ⟨k, h1, h2⟩ => by rw [h2]; exact o9 k h1) (fun r M' t H1 locs1 ht hvm hw hB hz1 hk1 hS1 => ?_)
  have hB' : va_P (xD U) classes (xWd U M') t.heap := hB
  rw [ht] at hB'
  exact kk r M' hw H1 locs1 ls hB' hS1 hL
theorem x_callVv (hO : xOK U G own cc K) {mi : xMI} {n index b ci : Nat} {fs : List (Option Nat)} {C : String} {T : u_T} {N : Nat} {av : List xV} {post : xM → Prop} (hM : xMetV U mi (.inr b :: av) M post) (hd : decode cc pc = .ok (.invokevirtual index, 3)) (hlk : Cond.methodLink own index mi.1 ∈ gw) (hcal : xCal mi n) (hvir : xVir mi) (hk : b < 64) (hs : xsh b = .inr (.inr (ci, fs))) (hc : classes[ci]? = some (C, T, N)) (hC : mi.1.cls = C) (hn : av.length = n) (hst : st = av.reverse ++ .inr b :: rest) (hlev : mi.2.2.2.2 < K) (hr : rest.length ≤ 8) (kk : ∀ (M' : xM), post M' → XW U G (pc + 3) L rest M') : XW U G pc L st M := by
  obtain ⟨p, e, R, s, m, args, below, meth, c, A0, nL, cs, sl, Q⟩ := G
  intro H locs ls hP hS hL
  obtain ⟨o1, o2, o3, o4, o5, o6, o7, o8, o9, o10, o11, o12, o13⟩ := hO
  have cw : CallW R s args own C index mi.1 mi.2.1 mi.2.2.1 mi.2.2.2.1 (xws mi) (xrm mi.2.2.2.2) 0 0 n := ⟨callB_of n o5 (xws_good mi hcal) rfl rfl rfl (o5 _ hcal.2.1) (o5 _ hlk) hcal.2.2.1 (x_room o10 o11 hlev hcal.2.2.2.2), o5 _ hvir.1, by rw [← hC]; exact o5 _ hvir.2⟩
  refine va_callv (va_runV (C := C) (As := av.map (xcv U)) (rest := rest.map (xcv U)) ⟨o1, o2, o3, o4, o5⟩ hM cw ⟨xPre.blind, va_recv o6 hP (ci := ci) (q0 := b) hc (by rw [xWd_get U M hk, hs]; rfl), fun X hX hW => ⟨rfl, xPre.warm hX hW hP o6 o7 o8⟩⟩ rfl (by simpa using hn) hL.1 (by subst hst; simp [xcv]) (lv_room (by rw [x_rest]; exact hr)) hd ⟨o12, o13⟩) hS (fun q _ ⟨k, h1, h2⟩ => by rw [h2]; exact o9 k h1) (fun q ⟨k, h1, h2⟩ => by rw [h2]; exact o9 k h1) (fun M' t H1 locs1 ht hvm hw hB hz1 hk1 hS1 => ?_)
  have hB' : va_P (xD U) classes (xWd U M') t.heap := hB
  rw [ht] at hB'
  exact kk M' hw H1 locs1 ls hB' hS1 hL
theorem x_callS (hO : xOK U G own cc K) {mi : xMI} {n index : Nat} {av : List xV} {post : Int32 → xM → Prop} (hM : xMetI U mi av M post) (hd : decode cc pc = .ok (.invokestatic index, 3)) (hlk : Cond.methodLink own index mi.1 ∈ gw) (hcal : xCal mi n) (hsta : xSta mi) (hn : av.length = n) (hst : st = av.reverse ++ rest) (hlev : mi.2.2.2.2 < K) (hr : rest.length ≤ 8) (kk : ∀ (r : Int32) (M' : xM), post r M' → XW U G (pc + 3) L (.inl r :: rest) M') : XW U G pc L st M := by
  obtain ⟨p, e, R, s, m, args, below, meth, c, A0, nL, cs, sl, Q⟩ := G
  intro H locs ls hP hS hL
  obtain ⟨o1, o2, o3, o4, o5, o6, o7, o8, o9, o10, o11, o12, o13⟩ := hO
  have cw : CallB R s args own index mi.1 mi.2.1 mi.2.2.1 mi.2.2.2.1 (xws mi) (xrm mi.2.2.2.2) 0 0 n ∧ (Cond.static mi.1).before args s = true := ⟨callB_of n o5 (xws_good mi hcal) rfl rfl rfl (o5 _ hcal.2.1) (o5 _ hlk) hcal.2.2.1 (x_room o10 o11 hlev hcal.2.2.2.2), o5 _ hsta⟩
  refine va_calli (va_runS (As := av.map (xcv U)) (rest := rest.map (xcv U)) ⟨o1, o2, o3, o4, o5⟩ hM cw ⟨xPre.blind, fun X hX hW => ⟨rfl, xPre.warm hX hW hP o6 o7 o8⟩⟩ rfl (by simpa using hn) hL.1 (by subst hst; simp [xcv]) (lv_room (by rw [x_rest]; exact hr)) hd ⟨o12, o13⟩) hS (fun q _ ⟨k, h1, h2⟩ => by rw [h2]; exact o9 k h1) (fun q ⟨k, h1, h2⟩ => by rw [h2]; exact o9 k h1) (fun r M' t H1 locs1 ht hvm hw hB hz1 hk1 hS1 => ?_)
  have hB' : va_P (xD U) classes (xWd U M') t.heap := hB
  rw [ht] at hB'
  exact kk r M' hw H1 locs1 ls hB' hS1 hL
theorem x_callSv (hO : xOK U G own cc K) {mi : xMI} {n index : Nat} {av : List xV} {post : xM → Prop} (hM : xMetV U mi av M post) (hd : decode cc pc = .ok (.invokestatic index, 3)) (hlk : Cond.methodLink own index mi.1 ∈ gw) (hcal : xCal mi n) (hsta : xSta mi) (hn : av.length = n) (hst : st = av.reverse ++ rest) (hlev : mi.2.2.2.2 < K) (hr : rest.length ≤ 8) (kk : ∀ (M' : xM), post M' → XW U G (pc + 3) L rest M') : XW U G pc L st M := by
  obtain ⟨p, e, R, s, m, args, below, meth, c, A0, nL, cs, sl, Q⟩ := G
  intro H locs ls hP hS hL
  obtain ⟨o1, o2, o3, o4, o5, o6, o7, o8, o9, o10, o11, o12, o13⟩ := hO
  have cw : CallB R s args own index mi.1 mi.2.1 mi.2.2.1 mi.2.2.2.1 (xws mi) (xrm mi.2.2.2.2) 0 0 n ∧ (Cond.static mi.1).before args s = true := ⟨callB_of n o5 (xws_good mi hcal) rfl rfl rfl (o5 _ hcal.2.1) (o5 _ hlk) hcal.2.2.1 (x_room o10 o11 hlev hcal.2.2.2.2), o5 _ hsta⟩
  refine va_callv (va_runS (As := av.map (xcv U)) (rest := rest.map (xcv U)) ⟨o1, o2, o3, o4, o5⟩ hM cw ⟨xPre.blind, fun X hX hW => ⟨rfl, xPre.warm hX hW hP o6 o7 o8⟩⟩ rfl (by simpa using hn) hL.1 (by subst hst; simp [xcv]) (lv_room (by rw [x_rest]; exact hr)) hd ⟨o12, o13⟩) hS (fun q _ ⟨k, h1, h2⟩ => by rw [h2]; exact o9 k h1) (fun q ⟨k, h1, h2⟩ => by rw [h2]; exact o9 k h1) (fun M' t H1 locs1 ht hvm hw hB hz1 hk1 hS1 => ?_)
  have hB' : va_P (xD U) classes (xWd U M') t.heap := hB
  rw [ht] at hB'
  exact kk M' hw H1 locs1 ls hB' hS1 hL
theorem x_cn {R : Room} {s : State} {args : Array Value} {own host : String} {index n : Nat} {mi : xMI} {K : Nat} (o5 : ∀ w ∈ gw, w.before args s = true) (o8 : ∀ w ∈ xnw, va_Nw w s) (o10 : K ≤ R.frames) (o11 : 30 * K ≤ R.locals) (hlk : Cond.methodLinkNest own index mi.1 host ∈ xnw) (hcal : xCal mi n) (hlev : mi.2.2.2.2 < K) : va_CN R s args own index mi.1 host mi.2.1 mi.2.2.1 mi.2.2.2.1 (xws mi) (xrm mi.2.2.2.2) 0 0 n := va_cnB n o5 (xws_good mi hcal) rfl rfl rfl (o8 _ hlk) (o5 _ hcal.2.1) hcal.2.2.1 (x_room o10 o11 hlev hcal.2.2.2.2)
theorem x_callSN (hO : xOK U G own cc K) {mi : xMI} {n index : Nat} {host : String} {av : List xV} {post : Int32 → xM → Prop} (hM : xMetI U mi av M post) (hd : decode cc pc = .ok (.invokestatic index, 3)) (hlk : Cond.methodLinkNest own index mi.1 host ∈ xnw) (hcal : xCal mi n) (hsta : xSta mi) (hn : av.length = n) (hst : st = av.reverse ++ rest) (hlev : mi.2.2.2.2 < K) (hr : rest.length ≤ 8) (kk : ∀ (r : Int32) (M' : xM), post r M' → XW U G (pc + 3) L (.inl r :: rest) M') : XW U G pc L st M := by
  obtain ⟨p, e, R, s, m, args, below, meth, c, A0, nL, cs, sl, Q⟩ := G
  intro H locs ls hP hS hL
  obtain ⟨o1, o2, o3, o4, o5, o6, o7, o8, o9, o10, o11, o12, o13⟩ := hO
  refine va_calli (va_runSN (host := host) (As := av.map (xcv U)) (rest := rest.map (xcv U)) ⟨o1, o2, o3, o4, o5⟩ hM ⟨x_cn o5 o8 o10 o11 hlk hcal hlev, o5 _ hsta, trivial⟩ ⟨xPre.blind, fun X hX hW => ⟨rfl, xPre.warm hX hW hP o6 o7 o8⟩⟩ rfl (by simpa using hn) hL.1 (by subst hst; simp [xcv]) (lv_room (by rw [x_rest]; exact hr)) hd ⟨o12, o13⟩) hS (fun q _ ⟨k, h1, h2⟩ => by rw [h2]; exact o9 k h1) (fun q ⟨k, h1, h2⟩ => by rw [h2]; exact o9 k h1) (fun r M' t H1 locs1 ht hvm hw hB hz1 hk1 hS1 => ?_)
  have hB' : va_P (xD U) classes (xWd U M') t.heap := hB
  rw [ht] at hB'
  exact kk r M' hw H1 locs1 ls hB' hS1 hL
theorem x_callSNv (hO : xOK U G own cc K) {mi : xMI} {n index : Nat} {host : String} {av : List xV} {post : xM → Prop} (hM : xMetV U mi av M post) (hd : decode cc pc = .ok (.invokestatic index, 3)) (hlk : Cond.methodLinkNest own index mi.1 host ∈ xnw) (hcal : xCal mi n) (hsta : xSta mi) (hn : av.length = n) (hst : st = av.reverse ++ rest) (hlev : mi.2.2.2.2 < K) (hr : rest.length ≤ 8) (kk : ∀ (M' : xM), post M' → XW U G (pc + 3) L rest M') : XW U G pc L st M := by
  obtain ⟨p, e, R, s, m, args, below, meth, c, A0, nL, cs, sl, Q⟩ := G
  intro H locs ls hP hS hL
  obtain ⟨o1, o2, o3, o4, o5, o6, o7, o8, o9, o10, o11, o12, o13⟩ := hO
  refine va_callv (va_runSN (host := host) (As := av.map (xcv U)) (rest := rest.map (xcv U)) ⟨o1, o2, o3, o4, o5⟩ hM ⟨x_cn o5 o8 o10 o11 hlk hcal hlev, o5 _ hsta, trivial⟩ ⟨xPre.blind, fun X hX hW => ⟨rfl, xPre.warm hX hW hP o6 o7 o8⟩⟩ rfl (by simpa using hn) hL.1 (by subst hst; simp [xcv]) (lv_room (by rw [x_rest]; exact hr)) hd ⟨o12, o13⟩) hS (fun q _ ⟨k, h1, h2⟩ => by rw [h2]; exact o9 k h1) (fun q ⟨k, h1, h2⟩ => by rw [h2]; exact o9 k h1) (fun M' t H1 locs1 ht hvm hw hB hz1 hk1 hS1 => ?_)
  have hB' : va_P (xD U) classes (xWd U M') t.heap := hB
  rw [ht] at hB'
  exact kk M' hw H1 locs1 ls hB' hS1 hL
theorem x_callV1 (hO : xOK U G own cc K) {mi : xMI} {n index b ci : Nat} {fs : List (Option Nat)} {C : String} {T : u_T} {N : Nat} {av : List xV} {f : Int32} (hM : xMetI U mi (.inr b :: av) M (fun r M' => r = f ∧ M' = M)) (hd : decode cc pc = .ok (.invokevirtual index, 3)) (hlk : Cond.methodLink own index mi.1 ∈ gw) (hcal : xCal mi n) (hvir : xVir mi) (hk : b < 64) (hs : xsh b = .inr (.inr (ci, fs))) (hc : classes[ci]? = some (C, T, N)) (hC : mi.1.cls = C) (hn : av.length = n) (hst : st = av.reverse ++ .inr b :: rest) (hlev : mi.2.2.2.2 < K) (hr : rest.length ≤ 8) (kk : XW U G (pc + 3) L (.inl f :: rest) M) : XW U G pc L st M := x_callV hO hM hd hlk hcal hvir hk hs hc hC hn hst hlev hr (fun r M' ⟨h1, h2⟩ => by rw [h1, h2]; exact kk)
theorem x_callS1 (hO : xOK U G own cc K) {mi : xMI} {n index : Nat} {av : List xV} {f : Int32} (hM : xMetI U mi av M (fun r M' => r = f ∧ M' = M)) (hd : decode cc pc = .ok (.invokestatic index, 3)) (hlk : Cond.methodLink own index mi.1 ∈ gw) (hcal : xCal mi n) (hsta : xSta mi) (hn : av.length = n) (hst : st = av.reverse ++ rest) (hlev : mi.2.2.2.2 < K) (hr : rest.length ≤ 8) (kk : XW U G (pc + 3) L (.inl f :: rest) M) : XW U G pc L st M := x_callS hO hM hd hlk hcal hsta hn hst hlev hr (fun r M' ⟨h1, h2⟩ => by rw [h1, h2]; exact kk)
theorem x_callSN1 (hO : xOK U G own cc K) {mi : xMI} {n index : Nat} {host : String} {av : List xV} {f : Int32} (hM : xMetI U mi av M (fun r M' => r = f ∧ M' = M)) (hd : decode cc pc = .ok (.invokestatic index, 3)) (hlk : Cond.methodLinkNest own index mi.1 host ∈ xnw) (hcal : xCal mi n) (hsta : xSta mi) (hn : av.length = n) (hst : st = av.reverse ++ rest) (hlev : mi.2.2.2.2 < K) (hr : rest.length ≤ 8) (kk : XW U G (pc + 3) L (.inl f :: rest) M) : XW U G pc L st M := x_callSN hO hM hd hlk hcal hsta hn hst hlev hr (fun r M' ⟨h1, h2⟩ => by rw [h1, h2]; exact kk)
theorem x_callVv1 (hO : xOK U G own cc K) {mi : xMI} {n index b ci : Nat} {fs : List (Option Nat)} {C : String} {T : u_T} {N : Nat} {av : List xV} {M1 : xM} (hM : xMetV U mi (.inr b :: av) M (fun M' => M' = M1)) (hd : decode cc pc = .ok (.invokevirtual index, 3)) (hlk : Cond.methodLink own index mi.1 ∈ gw) (hcal : xCal mi n) (hvir : xVir mi) (hk : b < 64) (hs : xsh b = .inr (.inr (ci, fs))) (hc : classes[ci]? = some (C, T, N)) (hC : mi.1.cls = C) (hn : av.length = n) (hst : st = av.reverse ++ .inr b :: rest) (hlev : mi.2.2.2.2 < K) (hr : rest.length ≤ 8) (kk : XW U G (pc + 3) L rest M1) : XW U G pc L st M := x_callVv hO hM hd hlk hcal hvir hk hs hc hC hn hst hlev hr (fun M' h1 => by rw [h1]; exact kk)
theorem x_callSv1 (hO : xOK U G own cc K) {mi : xMI} {n index : Nat} {av : List xV} {M1 : xM} (hM : xMetV U mi av M (fun M' => M' = M1)) (hd : decode cc pc = .ok (.invokestatic index, 3)) (hlk : Cond.methodLink own index mi.1 ∈ gw) (hcal : xCal mi n) (hsta : xSta mi) (hn : av.length = n) (hst : st = av.reverse ++ rest) (hlev : mi.2.2.2.2 < K) (hr : rest.length ≤ 8) (kk : XW U G (pc + 3) L rest M1) : XW U G pc L st M := x_callSv hO hM hd hlk hcal hsta hn hst hlev hr (fun M' h1 => by rw [h1]; exact kk)
theorem x_callSNv1 (hO : xOK U G own cc K) {mi : xMI} {n index : Nat} {host : String} {av : List xV} {M1 : xM} (hM : xMetV U mi av M (fun M' => M' = M1)) (hd : decode cc pc = .ok (.invokestatic index, 3)) (hlk : Cond.methodLinkNest own index mi.1 host ∈ xnw) (hcal : xCal mi n) (hsta : xSta mi) (hn : av.length = n) (hst : st = av.reverse ++ rest) (hlev : mi.2.2.2.2 < K) (hr : rest.length ≤ 8) (kk : XW U G (pc + 3) L rest M1) : XW U G pc L st M := x_callSNv hO hM hd hlk hcal hsta hn hst hlev hr (fun M' h1 => by rw [h1]; exact kk)
/-- the end of a method that answers an int -/
def xRI (U : xP) (G : xG) (ty : FieldType) (post : Int32 → xM → Prop) : Prop := match G with
  | (p, e, R, s, m, args, below, meth, c, A0, nL, cs, sl, Q) => meth.sig.returnType = some ty ∧ meth.locks = false ∧ A0 = xA U ∧ Q = MQ below (va_Qi post (xPost U) (xA U)) args s cs sl (xA U)
def xRV (U : xP) (G : xG) (post : xM → Prop) : Prop := match G with
  | (p, e, R, s, m, args, below, meth, c, A0, nL, cs, sl, Q) => meth.sig.returnType = none ∧ meth.locks = false ∧ A0 = xA U ∧ Q = MQ below (va_Qv post (xPost U) (xA U)) args s cs sl (xA U)
theorem x_iret (hO : xOK U G own cc K) {ty : FieldType} {post : Int32 → xM → Prop} (hR : xRI U G ty post) {v : Int32} (hd : decode cc pc = .ok (.ireturn, 1)) (hn : narrow ty (.int v) = .int v) (kk : post v M) : XW U G pc L [.inl v] M := by
  obtain ⟨p, e, R, s, m, args, below, meth, c, A0, nL, cs, sl, Q⟩ := G
  obtain ⟨r1, r2, rfl, rfl⟩ := hR
  intro H locs ls hP hS hL
  exact W.zret (v := v) hO.1 hO.2.1 r1 hn (fun t ht hW => ⟨⟨v, M, rfl, kk, by show va_P _ _ _ _; rw [ht]; exact hP⟩, hS.F ht⟩) hS.2.2 hd r2
theorem x_vret (hO : xOK U G own cc K) {post : xM → Prop} (hR : xRV U G post) (hd : decode cc pc = .ok (.return_, 1)) (kk : post M) : XW U G pc L [] M := by
  obtain ⟨p, e, R, s, m, args, below, meth, c, A0, nL, cs, sl, Q⟩ := G
  obtain ⟨r1, r2, rfl, rfl⟩ := hR
  intro H locs ls hP hS hL
  exact W.vret hO.1 hO.2.1 r1 (fun t ht hW => ⟨⟨M, rfl, kk, by show va_P _ _ _ _; rw [ht]; exact hP⟩, hS.F ht⟩) hS.2.2 hd r2
end XC
theorem xMet_ofWF {y : MethodName} {ws ws' : List Cond} {rm : Room} {Pc : Array Value → State → Prop} {Qc : Array Value → State → Outcome → State → Prop} {mc ms : Nat} {free : Addr → Prop} {cc : ByteArray} {maxL : Nat} {ret : Option FieldType} {l : Launch}
    (hy : plainFor y = true) (hw : ws = Cond.code y cc maxL ret :: ws')
    (body : ∀ p e s m args below meth c s₁, BodyLoose p l y (headSpec ws rm) cc maxL ret e s m args below meth c s₁ → c.maxLocals = maxL → Pc args s →
      W p l e (headSpec ws rm).room s m args below meth c s.heap [] 0 0 (MQ below Qc args s mc ms free) (entryFrame m args maxL)) : Met l y ws rm Pc Qc mc ms free := by
  refine MetFree.of_bodySF (code := cc) (maxLocals := maxL) (ret := ret) hy ?_ ?_
  · intro args s m h hn
    obtain ⟨meth, c, h1, h2, h3, h4, h5, h6, -, -⟩ := Cond.code_spec hn (atoms_spec (ws := ws) h _ (by rw [hw]; exact List.mem_cons_self))
    exact ⟨meth, c, h1, h2, h3, h4, h5, h6⟩
  · intro p e s m args below meth c s₁ B hml hP _
    have hh0 : s₁.heap = s.heap := by rw [B.state]; rfl
    obtain ⟨t, a1, o, b1, b2, b3⟩ := body p e s m args below meth c s₁ B hml hP s₁ hh0 (Stand.of_body B)
    exact ⟨t, o, a1, b1, b2, ⟨b3.1, b3.2⟩⟩
theorem xMetI.of {U : xP} {mi : xMI} {n : Nat} {av : List xV} {M : xM} {post : Int32 → xM → Prop} {ty : FieldType} {L : List (Option xV)} (hc : xCal mi n) (hty : mi.2.2.2.1 = some ty) (hL : av.map some ++ List.replicate (mi.2.2.1 - av.length) none = L) (hl : av.length ≤ mi.2.2.1) (body : ∀ G : xG, G.2.2.2.2.2.2.2.2.2.2.1 = mi.2.2.1 → xOK U G mi.1.cls mi.2.1 mi.2.2.2.2 → xRI U G ty post → XW U G 0 L [] M) : xMetI U mi av M post := by
  refine xMet_ofWF (cc := mi.2.1) (maxL := mi.2.2.1) (ret := mi.2.2.2.1) hc.2.2.2.1 rfl ?_
  intro p e s m args below meth c s₁ B hml hv
  obtain ⟨rfl, hP, hK, hDi, hnw⟩ := hv
  have hts := atoms_spec (ws := xws mi) B.pre
  have h1 := body (p, e, (headSpec (xws mi) (xrm mi.2.2.2.2)).room, s, m, (av.map (xcv U)).toArray, below, meth, c, xA U, mi.2.2.1, 0, 0, MQ below (va_Qi post (xPost U) (xA U)) (av.map (xcv U)).toArray s 0 0 (xA U)) rfl ⟨B.exec, B.bytes, hml, findClass_of_methodNamed B.named, fun w hw => hts w (List.mem_cons_of_mem _ hw), hK, hDi, hnw, fun k hk => ⟨k, hk, rfl⟩, Nat.le_refl _, Nat.le_refl _, Nat.le_refl _, Nat.le_refl _⟩ ⟨by rw [B.returns]; exact hty, B.notSynchronized, rfl, rfl⟩
  have h2 := h1 s.heap [] _ hP va_S.rf (by rw [← hL]; exact xL.entry U av hl)
  rw [lg_entry_eq]
  exact h2
theorem xMetV.of {U : xP} {mi : xMI} {n : Nat} {av : List xV} {M : xM} {post : xM → Prop} {L : List (Option xV)} (hc : xCal mi n) (hty : mi.2.2.2.1 = none) (hL : av.map some ++ List.replicate (mi.2.2.1 - av.length) none = L) (hl : av.length ≤ mi.2.2.1) (body : ∀ G : xG, G.2.2.2.2.2.2.2.2.2.2.1 = mi.2.2.1 → xOK U G mi.1.cls mi.2.1 mi.2.2.2.2 → xRV U G post → XW U G 0 L [] M) : xMetV U mi av M post := by
  refine xMet_ofWF (cc := mi.2.1) (maxL := mi.2.2.1) (ret := mi.2.2.2.1) hc.2.2.2.1 rfl ?_
  intro p e s m args below meth c s₁ B hml hv
  obtain ⟨rfl, hP, hK, hDi, hnw⟩ := hv
  have hts := atoms_spec (ws := xws mi) B.pre
  have h1 := body (p, e, (headSpec (xws mi) (xrm mi.2.2.2.2)).room, s, m, (av.map (xcv U)).toArray, below, meth, c, xA U, mi.2.2.1, 0, 0, MQ below (va_Qv post (xPost U) (xA U)) (av.map (xcv U)).toArray s 0 0 (xA U)) rfl ⟨B.exec, B.bytes, hml, findClass_of_methodNamed B.named, fun w hw => hts w (List.mem_cons_of_mem _ hw), hK, hDi, hnw, fun k hk => ⟨k, hk, rfl⟩, Nat.le_refl _, Nat.le_refl _, Nat.le_refl _, Nat.le_refl _⟩ ⟨by rw [B.returns]; exact hty, B.notSynchronized, rfl, rfl⟩
  have h2 := h1 s.heap [] _ hP va_S.rf (by rw [← hL]; exact xL.entry U av hl)
  rw [lg_entry_eq]
  exact h2
end
section
/-! ===== numbers, and searches over them ===== -/
theorem xinc_n (i : Nat) : nI i + Int32.ofInt 1 = nI (i + 1) := nI_1 i
theorem xdec_n (i : Nat) : nI (i + 1) + Int32.ofInt (-1) = nI i := pk_m1 i
/-- one less than k, from -1 on -/
def xm : Nat → Int32
  | 0 => -1
  | k + 1 => nI k
theorem xm_s (k : Nat) : xm (k + 1) = nI k := rfl
theorem xm_dec (k : Nat) : nI k + Int32.ofInt (-1) = xm k := by
  cases k with
  | zero => rfl
  | succ k => exact pk_m1 k
theorem xm_lt0 {k : Nat} (h : k < 2 ^ 31) : xm k < 0 ↔ k = 0 := by
  cases k with
  | zero => exact ⟨fun _ => rfl, fun _ => by decide⟩
  | succ k => exact ⟨fun q => absurd q (nI_pos (by omega)), fun q => by omega⟩
theorem xm_toInt {k : Nat} (h : k ≤ 2 ^ 31) : (xm k).toInt = (k : Int) - 1 := by
  cases k with
  | zero => decide
  | succ k => rw [xm_s, nI_toInt (by omega)]; omega
theorem upd_ind {P : Nat → Nat → Prop} (n : Nat) (h0 : P n 0) (hs : ∀ i d, i + (d + 1) = n → P (i + 1) d → P i (d + 1)) : ∀ d i, i + d = n → P i d := by
  intro d
  induction d with
  | zero => intro i h; obtain rfl : i = n := (by omega); exact h0
  | succ d ih => intro i h; exact hs i d h (ih (i + 1) (by omega))
/-- how many are below n -/
def nC (P : Nat → Bool) : Nat → Nat
  | 0 => 0
  | n + 1 => nC P n + (if P n then 1 else 0)
theorem nC_le (P : Nat → Bool) : ∀ n, nC P n ≤ n
  | 0 => Nat.le_refl _
  | n + 1 => by
    have := nC_le P n
    simp only [nC]
    split <;> omega
theorem nC_t {P : Nat → Bool} {n : Nat} (h : P n = true) : nC P (n + 1) = nC P n + 1 := by simp [nC, h]
theorem nC_f {P : Nat → Bool} {n : Nat} (h : P n = false) : nC P (n + 1) = nC P n := by simp [nC, h]
theorem nC_congr {P Q : Nat → Bool} : ∀ {n : Nat}, (∀ i, i < n → P i = Q i) → nC P n = nC Q n
  | 0, _ => rfl
  | n + 1, h => by simp only [nC, h n (by omega), nC_congr (n := n) (fun i hi => h i (by omega))]
theorem nC_0 {P : Nat → Bool} : ∀ {n : Nat}, nC P n = 0 ↔ ∀ i, i < n → P i = false
  | 0 => ⟨fun _ i h => by omega, fun _ => rfl⟩
  | n + 1 => by
    have ih := nC_0 (P := P) (n := n)
    simp only [nC]
    constructor
    · intro h i hi
      rcases Nat.lt_or_ge i n with q | q
      · exact ih.mp (by omega) i q
      · obtain rfl : i = n := by omega
        cases e : P i with
        | false => rfl
        | true => rw [e] at h; simp at h
    · intro h
      rw [ih.mpr (fun i hi => h i (by omega)), h n (by omega)]
      rfl
/-- the first from i on, of d; i + d if there is none -/
def nF (P : Nat → Bool) : Nat → Nat → Nat
  | i, 0 => i
  | i, d + 1 => if P i then i else nF P (i + 1) d
theorem nF_t {P : Nat → Bool} {i d : Nat} (h : P i = true) : nF P i (d + 1) = i := by simp [nF, h]
theorem nF_f {P : Nat → Bool} {i d : Nat} (h : P i = false) : nF P i (d + 1) = nF P (i + 1) d := by simp [nF, h]
theorem nF_le {P : Nat → Bool} : ∀ (d i : Nat), i ≤ nF P i d ∧ nF P i d ≤ i + d
  | 0, i => ⟨Nat.le_refl _, Nat.le_refl _⟩
  | d + 1, i => by
    have := nF_le (P := P) d (i + 1)
    simp only [nF]
    split <;> omega
theorem nF_no {P : Nat → Bool} : ∀ (d i j : Nat), i ≤ j → j < nF P i d → P j = false
  | 0, i, j, h1, h2 => by simp only [nF] at h2; omega
  | d + 1, i, j, h1, h2 => by
    cases e : P i with
    | true => rw [nF_t e] at h2; omega
    | false =>
      rw [nF_f e] at h2
      rcases Nat.lt_or_ge i j with q | q
      · exact nF_no d (i + 1) j q h2
      · obtain rfl : i = j := by omega
        exact e
theorem nF_yes {P : Nat → Bool} : ∀ (d i : Nat), nF P i d < i + d → P (nF P i d) = true
  | 0, i, h => by simp only [nF] at h; omega
  | d + 1, i, h => by
    cases e : P i with
    | true => rw [nF_t e]; exact e
    | false =>
      rw [nF_f e] at h ⊢
      exact nF_yes d (i + 1) (by omega)
theorem nF_eq {P : Nat → Bool} {i d r : Nat} (h0 : i ≤ r) (h1 : r ≤ i + d) (h2 : ∀ j, i ≤ j → j < r → P j = false) (h3 : r < i + d → P r = true) : nF P i d = r := by
  have a := nF_le (P := P) d i
  rcases Nat.lt_trichotomy (nF P i d) r with q | q | q
  · have := nF_yes (P := P) d i (by omega)
    rw [h2 _ a.1 q] at this
    cases this
  · exact q
  · have := nF_no (P := P) d i r h0 q
    rw [h3 (by omega)] at this
    cases this
theorem nF_congr {P Q : Nat → Bool} : ∀ {d i : Nat}, (∀ j, i ≤ j → j < i + d → P j = Q j) → nF P i d = nF Q i d
  | 0, _, _ => rfl
  | d + 1, i, h => by simp only [nF, h i (by omega) (by omega), nF_congr (d := d) (i := i + 1) (fun j h1 h2 => h j (by omega) (by omega))]
/-- one more than the last below n; 0 if there is none -/
def nL (P : Nat → Bool) : Nat → Nat
  | 0 => 0
  | n + 1 => if P n then n + 1 else nL P n
theorem nL_t {P : Nat → Bool} {n : Nat} (h : P n = true) : nL P (n + 1) = n + 1 := by simp [nL, h]
theorem nL_f {P : Nat → Bool} {n : Nat} (h : P n = false) : nL P (n + 1) = nL P n := by simp [nL, h]
theorem nL_le {P : Nat → Bool} : ∀ n, nL P n ≤ n
  | 0 => Nat.le_refl _
  | n + 1 => by
    have := nL_le (P := P) n
    simp only [nL]
    split <;> omega
theorem nL_yes {P : Nat → Bool} : ∀ {n j : Nat}, nL P n = j + 1 → P j = true
  | 0, j, h => by simp [nL] at h
  | n + 1, j, h => by
    cases e : P n with
    | true => rw [nL_t e] at h; obtain rfl : n = j := (by omega); exact e
    | false => rw [nL_f e] at h; exact nL_yes h
theorem nL_no {P : Nat → Bool} : ∀ {n j : Nat}, nL P n ≤ j → j < n → P j = false
  | 0, j, _, h => by omega
  | n + 1, j, h1, h2 => by
    cases e : P n with
    | true => rw [nL_t e] at h1; omega
    | false =>
      rw [nL_f e] at h1
      rcases Nat.lt_or_ge j n with q | q
      · exact nL_no h1 q
      · obtain rfl : j = n := by omega
        exact e
theorem nL_congr {P Q : Nat → Bool} : ∀ {n : Nat}, (∀ i, i < n → P i = Q i) → nL P n = nL Q n
  | 0, _ => rfl
  | n + 1, h => by simp only [nL, h n (by omega), nL_congr (n := n) (fun i hi => h i (by omega))]
/-- a truth as the machine has it -/
def bI (b : Bool) : Int32 := if b then 1 else 0
theorem bI_0 {b : Bool} (h : bI b = 0) : b = false := by cases b <;> first | rfl | exact absurd h (by decide)
theorem bI_1 {b : Bool} (h : ¬ bI b = 0) : b = true := by cases b <;> first | rfl | exact absurd rfl h
theorem bI_nar (b : Bool) : narrow .boolean (.int (bI b)) = .int (bI b) := by cases b <;> rfl
theorem bI_t {b : Bool} (h : b = true) : (nI 1 : Int32) = bI b := by rw [h]; rfl
theorem bI_f {b : Bool} (h : b = false) : (nI 0 : Int32) = bI b := by rw [h]; rfl
/-- what isSlot, isKey and their like ask: a number from 0 to n - 1 -/
theorem xi_range {x : Int32} {n : Nat} (hn : n < 2 ^ 31) : (¬ x < 0 ∧ x < nI n) ↔ ∃ j : Nat, j < n ∧ x = nI j := by
  constructor
  · rintro ⟨h1, h2⟩
    obtain ⟨j, hj, rfl⟩ := nI_of h1
    exact ⟨j, (nI_ltI hj hn).mp h2, rfl⟩
  · rintro ⟨j, hj, rfl⟩
    exact ⟨nI_pos (by omega), (nI_ltI (by omega) hn).mpr hj⟩
/-- an index of 0 to n - 1 -/
def ixB (x : Int32) (n : Nat) : Bool := decide (¬ x < 0 ∧ x < nI n)
theorem ixB_n {j n : Nat} (h : j < n) (hn : n < 2 ^ 31) : ixB (nI j) n = true := decide_eq_true ((xi_range hn).mpr ⟨j, h, rfl⟩)
theorem ixB_e {x : Int32} {n : Nat} (hn : n < 2 ^ 31) (h : ixB x n = true) : ∃ j : Nat, j < n ∧ x = nI j := (xi_range hn).mp (of_decide_eq_true h)
theorem ixB_lo {x : Int32} {n : Nat} (h : x < 0) : ixB x n = false := decide_eq_false (fun q => q.1 h)
theorem ixB_hi {x : Int32} {n : Nat} (h : nI n ≤ x) : ixB x n = false := decide_eq_false (fun q => Int32.not_lt.mpr h q.2)
theorem ixB_in {x : Int32} {n : Nat} (h1 : ¬ x < 0) (h2 : ¬ nI n ≤ x) : ixB x n = true := decide_eq_true ⟨h1, Int32.not_le.mp h2⟩
/-! ===== what a memory holds: a row of seven numbers a slot (rule, part, mask, value, rank, action, hits); a free slot's rule is -1 ===== -/
/-- the slot s of the memory at the cell b holds an entry -/
def occ (M : xM) (b s : Nat) : Bool := decide (s < 32) && !(M (b + 1) s == -1)
def eR : Nat → Int32 := fun w => if w = 0 then -1 else 0
def cA (M : xM) (b : Nat) : Nat → Nat → Int32 := fun s w => if occ M b s then (if w < 6 then M (b + 1 + w) s else if w = 6 ∧ M (b + 2) s = 0 then M (b + 7) s else 0) else eR w
def aoc (A : Nat → Nat → Int32) (s : Nat) : Bool := !(A s 0 == -1)
theorem cA_oc (M : xM) (b s : Nat) : aoc (cA M b) s = occ M b s := by
  unfold aoc cA
  cases h : occ M b s with
  | false => rfl
  | true =>
    have h2 := h
    simp only [occ, Bool.and_eq_true] at h2
    simpa using h2.2
theorem cA_in {M : xM} {b s : Nat} (h : aoc (cA M b) s = true) {w : Nat} (hw : w < 6) : M (b + 1 + w) s = cA M b s w := by
  rw [cA_oc] at h
  simp [cA, h, hw]
theorem cA_lt {M : xM} {b s : Nat} (h : aoc (cA M b) s = true) : s < 32 := by
  rw [cA_oc] at h
  simp only [occ, Bool.and_eq_true, decide_eq_true_eq] at h
  exact h.1
theorem cA_out {M : xM} {b s : Nat} (h : 32 ≤ s) : aoc (cA M b) s = false := by
  rw [cA_oc]
  simp only [occ]
  rw [decide_eq_false (by omega)]
  rfl
theorem cA_hit {M : xM} {b s : Nat} (h : aoc (cA M b) s = true) (h0 : cA M b s 1 = 0) : M (b + 7) s = cA M b s 6 := by
  have h1 : M (b + 2) s = 0 := by rw [show b + 2 = b + 1 + 1 from rfl, cA_in h (by decide)]; exact h0
  rw [cA_oc] at h
  simp [cA, h, h1]
end
section
/-! ===== TernaryMatcher.isSlot ===== -/
theorem k_isSlot (U : xP) (M : xM) (x : Int32) : xMetI U mX3_isSlot [.inl x] M (fun r M' => r = bI (ixB x 32) ∧ M' = M) := by
  refine xMetI.of (ty := .boolean) (L := [some (.inl x)]) fX3_isSlot rfl rfl (Nat.le_of_ble_eq_true rfl) (fun G hN hO hR => ?_)
  have hN : G.2.2.2.2.2.2.2.2.2.2.1 = 1 := hN
  have hO : xOK U G RX3 cX3_isSlot 0 := hO
  refine x_iload_n hO dX3_isSlot_0 rfl rfl ?_
  refine x_if_lt (tgt := 14) hO dX3_isSlot_1 (by decide) (fun c => ?_) (fun c => ?_)
  · refine x_iconst (v := nI 0) hO dX3_isSlot_14 rfl ?_
    refine x_iret hO hR dX3_isSlot_15 rfl ?_
    exact ⟨bI_f (ixB_lo c), rfl⟩
  · refine x_iload_n hO dX3_isSlot_4 rfl rfl ?_
    refine x_bipush (v := nI 32) hO dX3_isSlot_5 rfl ?_
    refine x_icmp_ge (tgt := 14) hO dX3_isSlot_7 (by decide) (fun c2 => ?_) (fun c2 => ?_)
    · refine x_iconst (v := nI 0) hO dX3_isSlot_14 rfl ?_
      refine x_iret hO hR dX3_isSlot_15 rfl ?_
      exact ⟨bI_f (ixB_hi c2), rfl⟩
    · refine x_iconst (v := nI 1) hO dX3_isSlot_10 rfl ?_
      refine x_goto (tgt := 15) hO dX3_isSlot_11 (by decide) ?_
      refine x_iret hO hR dX3_isSlot_15 rfl ?_
      exact ⟨bI_t (ixB_in c c2), rfl⟩
/-! ===== Memory.holdsEntry ===== -/
theorem k_holdsEntry (U : xP) (M : xM) (x : Int32) : xMetI U mX1_holdsEntry [.inr 16, .inl x] M (fun r M' => r = bI (ixB x 32 && aoc (cA M 16) x.toNatClampNeg) ∧ M' = M) := by
  refine xMetI.of (ty := .boolean) (L := [some (.inr 16), some (.inl x)]) fX1_holdsEntry rfl rfl (Nat.le_of_ble_eq_true rfl) (fun G hN hO hR => ?_)
  have hN : G.2.2.2.2.2.2.2.2.2.2.1 = 2 := hN
  have hO : xOK U G RX1 cX1_holdsEntry 0 := hO
  refine x_iload_n hO dX1_holdsEntry_0 rfl rfl ?_
  refine x_if_lt (tgt := 24) hO dX1_holdsEntry_1 (by decide) (fun c => ?_) (fun c => ?_)
  · refine x_iconst (v := nI 0) hO dX1_holdsEntry_24 rfl ?_
    refine x_iret hO hR dX1_holdsEntry_25 rfl ?_
    exact ⟨bI_f (by rw [ixB_lo c]; rfl), rfl⟩
  · refine x_iload_n hO dX1_holdsEntry_4 rfl rfl ?_
    refine x_bipush (v := nI 32) hO dX1_holdsEntry_5 rfl ?_
    refine x_icmp_ge (tgt := 24) hO dX1_holdsEntry_7 (by decide) (fun c2 => ?_) (fun c2 => ?_)
    · refine x_iconst (v := nI 0) hO dX1_holdsEntry_24 rfl ?_
      refine x_iret hO hR dX1_holdsEntry_25 rfl ?_
      exact ⟨bI_f (by rw [ixB_hi c2]; rfl), rfl⟩
    · obtain ⟨j, hj, rfl⟩ := ixB_e (by decide) (ixB_in c c2)
      have hc : (nI j).toNatClampNeg = j := nI_clamp (by omega)
      refine x_aload_n hO dX1_holdsEntry_10 rfl rfl ?_
      refine x_getR (T := TX1) (j := 0) hO dX1_holdsEntry_11 flX1_9 (by decide) rfl rfl (by decide) rfl rfl ?_
      refine x_iload_n hO dX1_holdsEntry_14 rfl rfl ?_
      refine x_iald hO (by decide) rfl (by decide) (rfl) (hj) dX1_holdsEntry_15 ?_
      refine x_iconst (v := (-1 : Int32)) hO dX1_holdsEntry_16 rfl ?_
      refine x_icmp_eq (tgt := 24) hO dX1_holdsEntry_17 (by decide) (fun c3 => ?_) (fun c3 => ?_)
      · refine x_iconst (v := nI 0) hO dX1_holdsEntry_24 rfl ?_
        refine x_iret hO hR dX1_holdsEntry_25 rfl ?_
        exact ⟨bI_f (by rw [hc, cA_oc]; simp [occ, c3]), rfl⟩
      · refine x_iconst (v := nI 1) hO dX1_holdsEntry_20 rfl ?_
        refine x_goto (tgt := 25) hO dX1_holdsEntry_21 (by decide) ?_
        refine x_iret hO hR dX1_holdsEntry_25 rfl ?_
        exact ⟨bI_t (by rw [ixB_n hj (by decide), hc, cA_oc]; simp [occ, c3, hj]), rfl⟩
theorem k_holds {U : xP} (M : xM) {i : Nat} (hi : i < 32) : xMetI U mX1_holdsEntry [.inr 16, .inl (nI i)] M (fun r M' => r = bI (aoc (cA M 16) i) ∧ M' = M) := by
  have h := k_holdsEntry U M (nI i)
  rw [ixB_n hi (by decide), nI_clamp (by omega)] at h
  simpa using h
theorem k_told (U : xP) (M : xM) {k : Nat} (hk : k < 64) (hs : xsh k = .inl 32) (x : Int32) : xMetI U mX1_told [.inr 16, .inr k, .inl x] M (fun r M' => r = (if ixB x 32 then (if aoc (cA M 16) x.toNatClampNeg then M k x.toNatClampNeg else -4) else -1) ∧ M' = M) := by
  refine xMetI.of (ty := .int) (L := [some (.inr 16), some (.inr k), some (.inl x)]) fX1_told rfl rfl (Nat.le_of_ble_eq_true rfl) (fun G hN hO hR => ?_)
  have hN : G.2.2.2.2.2.2.2.2.2.2.1 = 3 := hN
  have hO : xOK U G RX1 cX1_told 1 := hO
  refine x_iload_n hO dX1_told_0 rfl rfl ?_
  refine x_callSN1 hO (k_isSlot U M x) dX1_told_1 lkX1_49 fX3_isSlot sX3_isSlot rfl rfl (by decide) (Nat.le_of_ble_eq_true rfl) ?_
  refine x_if_eq (tgt := 13) hO dX1_told_4 (by decide) (fun c => ?_) (fun c => ?_)
  · refine x_iconst (v := (-1 : Int32)) hO dX1_told_13 rfl ?_
    refine x_iret hO hR dX1_told_14 rfl ?_
    exact ⟨by rw [bI_0 c]; rfl, rfl⟩
  · obtain ⟨j, hj, rfl⟩ := ixB_e (by decide) (bI_1 c)
    have hc : (nI j).toNatClampNeg = j := nI_clamp (by omega)
    refine x_iload_n hO dX1_told_7 rfl rfl ?_
    refine x_aload_n hO dX1_told_8 rfl rfl ?_
    refine x_alen hO hk hs dX1_told_9 ?_
    refine x_icmp_lt (tgt := 15) hO dX1_told_10 (by decide) (fun c2 => ?_) (fun c2 => ?_)
    · refine x_aload_n hO dX1_told_15 rfl rfl ?_
      refine x_iload_n hO dX1_told_16 rfl rfl ?_
      refine x_callV1 hO (k_holds M hj) dX1_told_17 lkX1_53 fX1_holdsEntry vX1_holdsEntry (by decide) rfl rfl rfl rfl rfl (by decide) (Nat.le_of_ble_eq_true rfl) ?_
      refine x_if_eq (tgt := 29) hO dX1_told_20 (by decide) (fun c3 => ?_) (fun c3 => ?_)
      · refine x_bipush (v := (-4 : Int32)) hO dX1_told_29 rfl ?_
        refine x_iret hO hR dX1_told_31 rfl ?_
        exact ⟨by rw [ixB_n hj (by decide), hc, bI_0 c3]; rfl, rfl⟩
      · refine x_aload_n hO dX1_told_23 rfl rfl ?_
        refine x_iload_n hO dX1_told_24 rfl rfl ?_
        refine x_iald hO hk hs (by decide) rfl hj dX1_told_25 ?_
        refine x_goto (tgt := 31) hO dX1_told_26 (by decide) ?_
        refine x_iret hO hR dX1_told_31 rfl ?_
        exact ⟨by rw [ixB_n hj (by decide), hc, bI_1 c3]; rfl, rfl⟩
    · exact absurd (nI_lt hj (by decide)) c2
end
section
/-! ===== what is asked of a memory's rows ===== -/
theorem nC_add (P : Nat → Bool) (m : Nat) : ∀ n, nC P (m + n) = nC P m + nC (fun i => P (m + i)) n
  | 0 => rfl
  | n + 1 => by
    have := nC_add P m n
    rw [show m + (n + 1) = (m + n) + 1 from rfl]
    simp only [nC, this]
    omega
abbrev aR : Type := Nat → Nat → Int32
def aBank (A : aR) (b : Nat) : Nat := nC (fun i => aoc A (b * 8 + i)) 8
def aCnt (A : aR) : Nat := nC (aoc A) 32
theorem aCnt_s (A : aR) (b : Nat) : nC (aoc A) ((b + 1) * 8) = nC (aoc A) (b * 8) + aBank A b := by
  rw [show (b + 1) * 8 = b * 8 + 8 from by omega, nC_add]
  rfl
def pP0 (A : aR) (s : Nat) : Bool := aoc A s && (A s 1 == 0)
def pRule (A : aR) (r : Int32) (s : Nat) : Bool := aoc A s && (A s 0 == r)
def pPart (A : aR) (r q : Int32) (s : Nat) : Bool := aoc A s && (A s 0 == r && A s 1 == q)
def pUp (A : aR) (r : Int32) (s : Nat) : Bool := aoc A s && decide (A s 4 ≤ r)
def pBy (A : aR) (r : Int32) (s : Nat) : Bool := aoc A s && decide (r < A s 4)
def pKey (A : aR) (k : Int32) (s : Nat) : Bool := aoc A s && (k &&& A s 2 == A s 3)
/-- a slot, or -1 -/
def aN (f : Nat) : Int32 := if f < 32 then nI f else -1
def aFd (A : aR) (k : Int32) : Nat := nF (pKey A k) 0 32
theorem k_entriesInBank (U : xP) (M : xM) {b : Nat} (hb : b < 4) : xMetI U mX1_entriesInBank [.inr 16, .inl (nI b)] M (fun r M' => r = nI (aBank (cA M 16) b) ∧ M' = M) := by
  refine xMetI.of (ty := .int) (L := [some (.inr 16), some (.inl (nI b)), none, none]) fX1_entriesInBank rfl rfl (Nat.le_of_ble_eq_true rfl) (fun G hN hO hR => ?_)
  have hN : G.2.2.2.2.2.2.2.2.2.2.1 = 4 := hN
  have hO : xOK U G RX1 cX1_entriesInBank 1 := hO
  refine x_iconst (v := nI 0) hO dX1_entriesInBank_0 rfl ?_
  refine x_istore_n (n := 4) hO dX1_entriesInBank_1 rfl rfl (by decide) hN ?_
  refine x_iconst (v := nI 0) hO dX1_entriesInBank_2 rfl ?_
  refine x_istore_n (n := 4) hO dX1_entriesInBank_3 rfl rfl (by decide) hN ?_
  refine upd_ind (P := fun i _ => XW U G 4 [some (.inr 16), some (.inl (nI b)), some (.inl (nI (nC (fun i => aoc (cA M 16) (b * 8 + i)) i))), some (.inl (nI i))] [] M) 8 ?_ ?_ 8 0 rfl
  · refine x_iload_n hO dX1_entriesInBank_4 rfl rfl ?_
    refine x_bipush (v := nI 8) hO dX1_entriesInBank_5 rfl ?_
    refine x_icmp_ge (tgt := 32) hO dX1_entriesInBank_7 (by decide) (fun c => ?_) (fun c => ?_)
    · refine x_iload_n hO dX1_entriesInBank_32 rfl rfl ?_
      refine x_iret hO hR dX1_entriesInBank_33 rfl ?_
      exact ⟨rfl, rfl⟩
    · exact absurd (Int32.le_refl _) c
  · intro i d hd ih
    refine x_iload_n hO dX1_entriesInBank_4 rfl rfl ?_
    refine x_bipush (v := nI 8) hO dX1_entriesInBank_5 rfl ?_
    refine x_icmp_ge (tgt := 32) hO dX1_entriesInBank_7 (by decide) (fun c => ?_) (fun c => ?_)
    · exact absurd c (nI_ge (by omega) (by decide))
    · refine x_aload_n hO dX1_entriesInBank_10 rfl rfl ?_
      refine x_iload_n hO dX1_entriesInBank_11 rfl rfl ?_
      refine x_bipush (v := nI 8) hO dX1_entriesInBank_12 rfl ?_
      refine x_imul hO dX1_entriesInBank_14 ?_
      refine x_iload_n hO dX1_entriesInBank_15 rfl rfl ?_
      refine x_iadd hO dX1_entriesInBank_16 ?_
      rw [pk_mul, nI_add]
      refine x_callV1 hO (k_holds M (i := b * 8 + i) (by omega)) dX1_entriesInBank_17 lkX1_53 fX1_holdsEntry vX1_holdsEntry (by decide) rfl rfl rfl rfl rfl (by decide) (Nat.le_of_ble_eq_true rfl) ?_
      refine x_if_eq (tgt := 26) hO dX1_entriesInBank_20 (by decide) (fun c2 => ?_) (fun c2 => ?_)
      · refine x_iinc hO dX1_entriesInBank_26 rfl (by first | exact xinc_n _ | rfl) rfl hN ?_
        refine x_goto (tgt := 4) hO dX1_entriesInBank_29 (by decide) ?_
        rw [nC_f (P := fun i => aoc (cA M 16) (b * 8 + i)) (bI_0 c2)] at ih
        exact ih
      · refine x_iinc hO dX1_entriesInBank_23 rfl (by first | exact xinc_n _ | rfl) rfl hN ?_
        refine x_iinc hO dX1_entriesInBank_26 rfl (by first | exact xinc_n _ | rfl) rfl hN ?_
        refine x_goto (tgt := 4) hO dX1_entriesInBank_29 (by decide) ?_
        rw [nC_t (P := fun i => aoc (cA M 16) (b * 8 + i)) (bI_1 c2)] at ih
        exact ih
theorem k_entries (U : xP) (M : xM) : xMetI U mX1_entries [.inr 16] M (fun r M' => r = nI (aCnt (cA M 16)) ∧ M' = M) := by
  refine xMetI.of (ty := .int) (L := [some (.inr 16), none, none]) fX1_entries rfl rfl (Nat.le_of_ble_eq_true rfl) (fun G hN hO hR => ?_)
  have hN : G.2.2.2.2.2.2.2.2.2.2.1 = 3 := hN
  have hO : xOK U G RX1 cX1_entries 2 := hO
  refine x_iconst (v := nI 0) hO dX1_entries_0 rfl ?_
  refine x_istore_n (n := 3) hO dX1_entries_1 rfl rfl (by decide) hN ?_
  refine x_iconst (v := nI 0) hO dX1_entries_2 rfl ?_
  refine x_istore_n (n := 3) hO dX1_entries_3 rfl rfl (by decide) hN ?_
  refine upd_ind (P := fun i _ => XW U G 4 [some (.inr 16), some (.inl (nI (nC (aoc (cA M 16)) (i * 8)))), some (.inl (nI i))] [] M) 4 ?_ ?_ 4 0 rfl
  · refine x_iload_n hO dX1_entries_4 rfl rfl ?_
    refine x_iconst (v := nI 4) hO dX1_entries_5 rfl ?_
    refine x_icmp_ge (tgt := 23) hO dX1_entries_6 (by decide) (fun c => ?_) (fun c => ?_)
    · refine x_iload_n hO dX1_entries_23 rfl rfl ?_
      refine x_iret hO hR dX1_entries_24 rfl ?_
      exact ⟨rfl, rfl⟩
    · exact absurd (Int32.le_refl _) c
  · intro i d hd ih
    refine x_iload_n hO dX1_entries_4 rfl rfl ?_
    refine x_iconst (v := nI 4) hO dX1_entries_5 rfl ?_
    refine x_icmp_ge (tgt := 23) hO dX1_entries_6 (by decide) (fun c => ?_) (fun c => ?_)
    · exact absurd c (nI_ge (by omega) (by decide))
    · refine x_iload_n hO dX1_entries_9 rfl rfl ?_
      refine x_aload_n hO dX1_entries_10 rfl rfl ?_
      refine x_iload_n hO dX1_entries_11 rfl rfl ?_
      refine x_callV1 hO (k_entriesInBank U M (b := i) (by omega)) dX1_entries_12 lkX1_56 fX1_entriesInBank vX1_entriesInBank (by decide) rfl rfl rfl rfl rfl (by decide) (Nat.le_of_ble_eq_true rfl) ?_
      refine x_iadd hO dX1_entries_15 ?_
      rw [nI_add, ← aCnt_s]
      refine x_istore_n (n := 3) hO dX1_entries_16 rfl rfl (by decide) hN ?_
      refine x_iinc hO dX1_entries_17 rfl (by first | exact xinc_n _ | rfl) rfl hN ?_
      refine x_goto (tgt := 4) hO dX1_entries_20 (by decide) ?_
      exact ih
theorem aCnt_le (A : aR) : aCnt A ≤ 32 := nC_le _ _
theorem k_freeSlots (U : xP) (M : xM) : xMetI U mX1_freeSlots [.inr 16] M (fun r M' => r = nI (32 - aCnt (cA M 16)) ∧ M' = M) := by
  refine xMetI.of (ty := .int) (L := [some (.inr 16)]) fX1_freeSlots rfl rfl (Nat.le_of_ble_eq_true rfl) (fun G hN hO hR => ?_)
  have hN : G.2.2.2.2.2.2.2.2.2.2.1 = 1 := hN
  have hO : xOK U G RX1 cX1_freeSlots 3 := hO
  refine x_bipush (v := nI 32) hO dX1_freeSlots_0 rfl ?_
  refine x_aload_n hO dX1_freeSlots_2 rfl rfl ?_
  refine x_callV1 hO (k_entries U M) dX1_freeSlots_3 lkX1_60 fX1_entries vX1_entries (by decide) rfl rfl rfl rfl rfl (by decide) (Nat.le_of_ble_eq_true rfl) ?_
  refine x_isub hO dX1_freeSlots_6 ?_
  rw [pk_sub (aCnt_le _)]
  refine x_iret hO hR dX1_freeSlots_7 rfl ?_
  exact ⟨rfl, rfl⟩
theorem k_rules (U : xP) (M : xM) : xMetI U mX1_rules [.inr 16] M (fun r M' => r = nI (nC (pP0 (cA M 16)) 32) ∧ M' = M) := by
  refine xMetI.of (ty := .int) (L := [some (.inr 16), none, none]) fX1_rules rfl rfl (Nat.le_of_ble_eq_true rfl) (fun G hN hO hR => ?_)
  have hN : G.2.2.2.2.2.2.2.2.2.2.1 = 3 := hN
  have hO : xOK U G RX1 cX1_rules 1 := hO
  refine x_iconst (v := nI 0) hO dX1_rules_0 rfl ?_
  refine x_istore_n (n := 3) hO dX1_rules_1 rfl rfl (by decide) hN ?_
  refine x_iconst (v := nI 0) hO dX1_rules_2 rfl ?_
  refine x_istore_n (n := 3) hO dX1_rules_3 rfl rfl (by decide) hN ?_
  refine upd_ind (P := fun i _ => XW U G 4 [some (.inr 16), some (.inl (nI (nC (pP0 (cA M 16)) i))), some (.inl (nI i))] [] M) 32 ?_ ?_ 32 0 rfl
  · refine x_iload_n hO dX1_rules_4 rfl rfl ?_
    refine x_bipush (v := nI 32) hO dX1_rules_5 rfl ?_
    refine x_icmp_ge (tgt := 36) hO dX1_rules_7 (by decide) (fun c => ?_) (fun c => ?_)
    · refine x_iload_n hO dX1_rules_36 rfl rfl ?_
      refine x_iret hO hR dX1_rules_37 rfl ?_
      exact ⟨rfl, rfl⟩
    · exact absurd (Int32.le_refl _) c
  · intro i d hd ih
    have hi : i < 32 := by omega
    refine x_iload_n hO dX1_rules_4 rfl rfl ?_
    refine x_bipush (v := nI 32) hO dX1_rules_5 rfl ?_
    refine x_icmp_ge (tgt := 36) hO dX1_rules_7 (by decide) (fun c => ?_) (fun c => ?_)
    · exact absurd c (nI_ge hi (by decide))
    · refine x_aload_n hO dX1_rules_10 rfl rfl ?_
      refine x_iload_n hO dX1_rules_11 rfl rfl ?_
      refine x_callV1 hO (k_holds M hi) dX1_rules_12 lkX1_53 fX1_holdsEntry vX1_holdsEntry (by decide) rfl rfl rfl rfl rfl (by decide) (Nat.le_of_ble_eq_true rfl) ?_
      refine x_if_eq (tgt := 30) hO dX1_rules_15 (by decide) (fun c2 => ?_) (fun c2 => ?_)
      · refine x_iinc hO dX1_rules_30 rfl (by first | exact xinc_n _ | rfl) rfl hN ?_
        refine x_goto (tgt := 4) hO dX1_rules_33 (by decide) ?_
        rw [nC_f (by simp [pP0, bI_0 c2])] at ih
        exact ih
      · have e : M 18 i = cA M 16 i 1 := cA_in (w := 1) (bI_1 c2) (by decide)
        refine x_aload_n hO dX1_rules_18 rfl rfl ?_
        refine x_getR (T := TX1) (j := 1) hO dX1_rules_19 flX1_15 (by decide) rfl rfl (by decide) rfl rfl ?_
        refine x_iload_n hO dX1_rules_22 rfl rfl ?_
        refine x_iald hO (by decide) rfl (by decide) (rfl) (hi) dX1_rules_23 ?_
        refine x_if_ne (tgt := 30) hO dX1_rules_24 (by decide) (fun c3 => ?_) (fun c3 => ?_)
        · refine x_iinc hO dX1_rules_30 rfl (by first | exact xinc_n _ | rfl) rfl hN ?_
          refine x_goto (tgt := 4) hO dX1_rules_33 (by decide) ?_
          rw [nC_f (by rw [e] at c3; simp [pP0, c3])] at ih
          exact ih
        · refine x_iinc hO dX1_rules_27 rfl (by first | exact xinc_n _ | rfl) rfl hN ?_
          refine x_iinc hO dX1_rules_30 rfl (by first | exact xinc_n _ | rfl) rfl hN ?_
          refine x_goto (tgt := 4) hO dX1_rules_33 (by decide) ?_
          rw [nC_t (by rw [e] at c3; simp [pP0, bI_1 c2, c3])] at ih
          exact ih
theorem k_entriesOf (U : xP) (M : xM) (x : Int32) : xMetI U mX1_entriesOf [.inr 16, .inl x] M (fun r M' => r = nI (nC (pRule (cA M 16) x) 32) ∧ M' = M) := by
  refine xMetI.of (ty := .int) (L := [some (.inr 16), some (.inl x), none, none]) fX1_entriesOf rfl rfl (Nat.le_of_ble_eq_true rfl) (fun G hN hO hR => ?_)
  have hN : G.2.2.2.2.2.2.2.2.2.2.1 = 4 := hN
  have hO : xOK U G RX1 cX1_entriesOf 1 := hO
  refine x_iconst (v := nI 0) hO dX1_entriesOf_0 rfl ?_
  refine x_istore_n (n := 4) hO dX1_entriesOf_1 rfl rfl (by decide) hN ?_
  refine x_iconst (v := nI 0) hO dX1_entriesOf_2 rfl ?_
  refine x_istore_n (n := 4) hO dX1_entriesOf_3 rfl rfl (by decide) hN ?_
  refine upd_ind (P := fun i _ => XW U G 4 [some (.inr 16), some (.inl x), some (.inl (nI (nC (pRule (cA M 16) x) i))), some (.inl (nI i))] [] M) 32 ?_ ?_ 32 0 rfl
  · refine x_iload_n hO dX1_entriesOf_4 rfl rfl ?_
    refine x_bipush (v := nI 32) hO dX1_entriesOf_5 rfl ?_
    refine x_icmp_ge (tgt := 37) hO dX1_entriesOf_7 (by decide) (fun c => ?_) (fun c => ?_)
    · refine x_iload_n hO dX1_entriesOf_37 rfl rfl ?_
      refine x_iret hO hR dX1_entriesOf_38 rfl ?_
      exact ⟨rfl, rfl⟩
    · exact absurd (Int32.le_refl _) c
  · intro i d hd ih
    have hi : i < 32 := by omega
    refine x_iload_n hO dX1_entriesOf_4 rfl rfl ?_
    refine x_bipush (v := nI 32) hO dX1_entriesOf_5 rfl ?_
    refine x_icmp_ge (tgt := 37) hO dX1_entriesOf_7 (by decide) (fun c => ?_) (fun c => ?_)
    · exact absurd c (nI_ge hi (by decide))
    · refine x_aload_n hO dX1_entriesOf_10 rfl rfl ?_
      refine x_iload_n hO dX1_entriesOf_11 rfl rfl ?_
      refine x_callV1 hO (k_holds M hi) dX1_entriesOf_12 lkX1_53 fX1_holdsEntry vX1_holdsEntry (by decide) rfl rfl rfl rfl rfl (by decide) (Nat.le_of_ble_eq_true rfl) ?_
      refine x_if_eq (tgt := 31) hO dX1_entriesOf_15 (by decide) (fun c2 => ?_) (fun c2 => ?_)
      · refine x_iinc hO dX1_entriesOf_31 rfl (by first | exact xinc_n _ | rfl) rfl hN ?_
        refine x_goto (tgt := 4) hO dX1_entriesOf_34 (by decide) ?_
        rw [nC_f (by simp [pRule, bI_0 c2])] at ih
        exact ih
      · have e : M 17 i = cA M 16 i 0 := cA_in (w := 0) (bI_1 c2) (by decide)
        refine x_aload_n hO dX1_entriesOf_18 rfl rfl ?_
        refine x_getR (T := TX1) (j := 0) hO dX1_entriesOf_19 flX1_9 (by decide) rfl rfl (by decide) rfl rfl ?_
        refine x_iload_n hO dX1_entriesOf_22 rfl rfl ?_
        refine x_iald hO (by decide) rfl (by decide) (rfl) (hi) dX1_entriesOf_23 ?_
        refine x_iload_n hO dX1_entriesOf_24 rfl rfl ?_
        refine x_icmp_ne (tgt := 31) hO dX1_entriesOf_25 (by decide) (fun c3 => ?_) (fun c3 => ?_)
        · refine x_iinc hO dX1_entriesOf_31 rfl (by first | exact xinc_n _ | rfl) rfl hN ?_
          refine x_goto (tgt := 4) hO dX1_entriesOf_34 (by decide) ?_
          rw [nC_f (by rw [e] at c3; simp [pRule, c3])] at ih
          exact ih
        · refine x_iinc hO dX1_entriesOf_28 rfl (by first | exact xinc_n _ | rfl) rfl hN ?_
          refine x_iinc hO dX1_entriesOf_31 rfl (by first | exact xinc_n _ | rfl) rfl hN ?_
          refine x_goto (tgt := 4) hO dX1_entriesOf_34 (by decide) ?_
          rw [nC_t (by rw [e] at c3; simp [pRule, bI_1 c2, c3])] at ih
          exact ih
theorem k_slotHolding (U : xP) (M : xM) (x y : Int32) : xMetI U mX1_slotHolding [.inr 16, .inl x, .inl y] M (fun r M' => r = aN (nF (pPart (cA M 16) x y) 0 32) ∧ M' = M) := by
  refine xMetI.of (ty := .int) (L := [some (.inr 16), some (.inl x), some (.inl y), none]) fX1_slotHolding rfl rfl (Nat.le_of_ble_eq_true rfl) (fun G hN hO hR => ?_)
  have hN : G.2.2.2.2.2.2.2.2.2.2.1 = 4 := hN
  have hO : xOK U G RX1 cX1_slotHolding 1 := hO
  generalize hf : nF (pPart (cA M 16) x y) 0 32 = f at hR
  refine x_iconst (v := nI 0) hO dX1_slotHolding_0 rfl ?_
  refine x_istore_n (n := 4) hO dX1_slotHolding_1 rfl rfl (by decide) hN ?_
  refine upd_ind (P := fun i d => nF (pPart (cA M 16) x y) i d = f → XW U G 2 [some (.inr 16), some (.inl x), some (.inl y), some (.inl (nI i))] [] M) 32 ?_ ?_ 32 0 rfl hf
  · intro hf
    refine x_iload_n hO dX1_slotHolding_2 rfl rfl ?_
    refine x_bipush (v := nI 32) hO dX1_slotHolding_3 rfl ?_
    refine x_icmp_ge (tgt := 44) hO dX1_slotHolding_5 (by decide) (fun c => ?_) (fun c => ?_)
    · refine x_iconst (v := (-1 : Int32)) hO dX1_slotHolding_44 rfl ?_
      refine x_iret hO hR dX1_slotHolding_45 rfl ?_
      exact ⟨by rw [← hf]; rfl, rfl⟩
    · exact absurd (Int32.le_refl _) c
  · intro i d hd ih hf
    have hi : i < 32 := by omega
    refine x_iload_n hO dX1_slotHolding_2 rfl rfl ?_
    refine x_bipush (v := nI 32) hO dX1_slotHolding_3 rfl ?_
    refine x_icmp_ge (tgt := 44) hO dX1_slotHolding_5 (by decide) (fun c => ?_) (fun c => ?_)
    · exact absurd c (nI_ge hi (by decide))
    · refine x_aload_n hO dX1_slotHolding_8 rfl rfl ?_
      refine x_iload_n hO dX1_slotHolding_9 rfl rfl ?_
      refine x_callV1 hO (k_holds M hi) dX1_slotHolding_10 lkX1_53 fX1_holdsEntry vX1_holdsEntry (by decide) rfl rfl rfl rfl rfl (by decide) (Nat.le_of_ble_eq_true rfl) ?_
      refine x_if_eq (tgt := 38) hO dX1_slotHolding_13 (by decide) (fun c2 => ?_) (fun c2 => ?_)
      · refine x_iinc hO dX1_slotHolding_38 rfl (by first | exact xinc_n _ | rfl) rfl hN ?_
        refine x_goto (tgt := 2) hO dX1_slotHolding_41 (by decide) ?_
        exact ih (by rw [← hf, nF_f (by simp [pPart, bI_0 c2])])
      · have e : M 17 i = cA M 16 i 0 := cA_in (w := 0) (bI_1 c2) (by decide)
        have e1 : M 18 i = cA M 16 i 1 := cA_in (w := 1) (bI_1 c2) (by decide)
        refine x_aload_n hO dX1_slotHolding_16 rfl rfl ?_
        refine x_getR (T := TX1) (j := 0) hO dX1_slotHolding_17 flX1_9 (by decide) rfl rfl (by decide) rfl rfl ?_
        refine x_iload_n hO dX1_slotHolding_20 rfl rfl ?_
        refine x_iald hO (by decide) rfl (by decide) (rfl) (hi) dX1_slotHolding_21 ?_
        refine x_iload_n hO dX1_slotHolding_22 rfl rfl ?_
        refine x_icmp_ne (tgt := 38) hO dX1_slotHolding_23 (by decide) (fun c3 => ?_) (fun c3 => ?_)
        · refine x_iinc hO dX1_slotHolding_38 rfl (by first | exact xinc_n _ | rfl) rfl hN ?_
          refine x_goto (tgt := 2) hO dX1_slotHolding_41 (by decide) ?_
          exact ih (by rw [← hf, nF_f (by rw [e] at c3; simp [pPart, c3])])
        · refine x_aload_n hO dX1_slotHolding_26 rfl rfl ?_
          refine x_getR (T := TX1) (j := 1) hO dX1_slotHolding_27 flX1_15 (by decide) rfl rfl (by decide) rfl rfl ?_
          refine x_iload_n hO dX1_slotHolding_30 rfl rfl ?_
          refine x_iald hO (by decide) rfl (by decide) (rfl) (hi) dX1_slotHolding_31 ?_
          refine x_iload_n hO dX1_slotHolding_32 rfl rfl ?_
          refine x_icmp_ne (tgt := 38) hO dX1_slotHolding_33 (by decide) (fun c4 => ?_) (fun c4 => ?_)
          · refine x_iinc hO dX1_slotHolding_38 rfl (by first | exact xinc_n _ | rfl) rfl hN ?_
            refine x_goto (tgt := 2) hO dX1_slotHolding_41 (by decide) ?_
            exact ih (by rw [← hf, nF_f (by rw [e1] at c4; simp [pPart, c4])])
          · refine x_iload_n hO dX1_slotHolding_36 rfl rfl ?_
            refine x_iret hO hR dX1_slotHolding_37 rfl ?_
            exact ⟨by rw [← hf, nF_t (by rw [e] at c3; rw [e1] at c4; simp [pPart, bI_1 c2, c3, c4])]; simp [aN, hi], rfl⟩
theorem k_lastSlotUpTo (U : xP) (M : xM) (x : Int32) : xMetI U mX1_lastSlotUpTo [.inr 16, .inl x] M (fun r M' => r = xm (nL (pUp (cA M 16) x) 32) ∧ M' = M) := by
  refine xMetI.of (ty := .int) (L := [some (.inr 16), some (.inl x), none]) fX1_lastSlotUpTo rfl rfl (Nat.le_of_ble_eq_true rfl) (fun G hN hO hR => ?_)
  have hN : G.2.2.2.2.2.2.2.2.2.2.1 = 3 := hN
  have hO : xOK U G RX1 cX1_lastSlotUpTo 1 := hO
  generalize hf : nL (pUp (cA M 16) x) 32 = f at hR
  refine x_bipush (v := nI 31) hO dX1_lastSlotUpTo_0 rfl ?_
  refine x_istore_n (n := 3) hO dX1_lastSlotUpTo_2 rfl rfl (by decide) hN ?_
  have loop : ∀ k, k ≤ 32 → nL (pUp (cA M 16) x) k = f → XW U G 3 [some (.inr 16), some (.inl x), some (.inl (xm k))] [] M := by
    intro k
    induction k with
    | zero =>
      intro _ hf
      refine x_iload_n hO dX1_lastSlotUpTo_3 rfl rfl ?_
      refine x_if_lt (tgt := 33) hO dX1_lastSlotUpTo_4 (by decide) (fun c => ?_) (fun c => ?_)
      · refine x_iconst (v := (-1 : Int32)) hO dX1_lastSlotUpTo_33 rfl ?_
        refine x_iret hO hR dX1_lastSlotUpTo_34 rfl ?_
        exact ⟨by rw [← hf]; rfl, rfl⟩
      · exact absurd (by decide) c
    | succ i ih =>
      intro hi hf
      have hi : i < 32 := by omega
      refine x_iload_n hO dX1_lastSlotUpTo_3 rfl rfl ?_
      refine x_if_lt (tgt := 33) hO dX1_lastSlotUpTo_4 (by decide) (fun c => ?_) (fun c => ?_)
      · exact absurd c (nI_pos (by omega))
      · refine x_aload_n hO dX1_lastSlotUpTo_7 rfl rfl ?_
        refine x_iload_n hO dX1_lastSlotUpTo_8 rfl rfl ?_
        refine x_callV1 hO (k_holds M hi) dX1_lastSlotUpTo_9 lkX1_53 fX1_holdsEntry vX1_holdsEntry (by decide) rfl rfl rfl rfl rfl (by decide) (Nat.le_of_ble_eq_true rfl) ?_
        refine x_if_eq (tgt := 27) hO dX1_lastSlotUpTo_12 (by decide) (fun c2 => ?_) (fun c2 => ?_)
        · refine x_iinc hO dX1_lastSlotUpTo_27 rfl (xm_dec i) rfl hN ?_
          refine x_goto (tgt := 3) hO dX1_lastSlotUpTo_30 (by decide) ?_
          exact ih (by omega) (by rw [← hf, nL_f (by simp [pUp, bI_0 c2])])
        · have e : M 21 i = cA M 16 i 4 := cA_in (w := 4) (bI_1 c2) (by decide)
          refine x_aload_n hO dX1_lastSlotUpTo_15 rfl rfl ?_
          refine x_getR (T := TX1) (j := 4) hO dX1_lastSlotUpTo_16 flX1_24 (by decide) rfl rfl (by decide) rfl rfl ?_
          refine x_iload_n hO dX1_lastSlotUpTo_19 rfl rfl ?_
          refine x_iald hO (by decide) rfl (by decide) (rfl) (hi) dX1_lastSlotUpTo_20 ?_
          refine x_iload_n hO dX1_lastSlotUpTo_21 rfl rfl ?_
          refine x_icmp_gt (tgt := 27) hO dX1_lastSlotUpTo_22 (by decide) (fun c3 => ?_) (fun c3 => ?_)
          · refine x_iinc hO dX1_lastSlotUpTo_27 rfl (xm_dec i) rfl hN ?_
            refine x_goto (tgt := 3) hO dX1_lastSlotUpTo_30 (by decide) ?_
            exact ih (by omega) (by rw [← hf, nL_f (by rw [e] at c3; simp [pUp, Int32.not_le.mpr c3])])
          · refine x_iload_n hO dX1_lastSlotUpTo_25 rfl rfl ?_
            refine x_iret hO hR dX1_lastSlotUpTo_26 rfl ?_
            exact ⟨by rw [← hf, nL_t (by rw [e] at c3; simp [pUp, bI_1 c2, Int32.not_lt.mp c3])], rfl⟩
  exact loop 32 (Nat.le_refl _) hf
theorem k_firstSlotBeyond (U : xP) (M : xM) (x : Int32) : xMetI U mX1_firstSlotBeyond [.inr 16, .inl x] M (fun r M' => r = nI (nF (pBy (cA M 16) x) 0 32) ∧ M' = M) := by
  refine xMetI.of (ty := .int) (L := [some (.inr 16), some (.inl x), none]) fX1_firstSlotBeyond rfl rfl (Nat.le_of_ble_eq_true rfl) (fun G hN hO hR => ?_)
  have hN : G.2.2.2.2.2.2.2.2.2.2.1 = 3 := hN
  have hO : xOK U G RX1 cX1_firstSlotBeyond 1 := hO
  generalize hf : nF (pBy (cA M 16) x) 0 32 = f at hR
  refine x_iconst (v := nI 0) hO dX1_firstSlotBeyond_0 rfl ?_
  refine x_istore_n (n := 3) hO dX1_firstSlotBeyond_1 rfl rfl (by decide) hN ?_
  refine upd_ind (P := fun i d => nF (pBy (cA M 16) x) i d = f → XW U G 2 [some (.inr 16), some (.inl x), some (.inl (nI i))] [] M) 32 ?_ ?_ 32 0 rfl hf
  · intro hf
    refine x_iload_n hO dX1_firstSlotBeyond_2 rfl rfl ?_
    refine x_bipush (v := nI 32) hO dX1_firstSlotBeyond_3 rfl ?_
    refine x_icmp_ge (tgt := 34) hO dX1_firstSlotBeyond_5 (by decide) (fun c => ?_) (fun c => ?_)
    · refine x_bipush (v := nI 32) hO dX1_firstSlotBeyond_34 rfl ?_
      refine x_iret hO hR dX1_firstSlotBeyond_36 rfl ?_
      exact ⟨by rw [← hf]; rfl, rfl⟩
    · exact absurd (Int32.le_refl _) c
  · intro i d hd ih hf
    have hi : i < 32 := by omega
    refine x_iload_n hO dX1_firstSlotBeyond_2 rfl rfl ?_
    refine x_bipush (v := nI 32) hO dX1_firstSlotBeyond_3 rfl ?_
    refine x_icmp_ge (tgt := 34) hO dX1_firstSlotBeyond_5 (by decide) (fun c => ?_) (fun c => ?_)
    · exact absurd c (nI_ge hi (by decide))
    · refine x_aload_n hO dX1_firstSlotBeyond_8 rfl rfl ?_
      refine x_iload_n hO dX1_firstSlotBeyond_9 rfl rfl ?_
      refine x_callV1 hO (k_holds M hi) dX1_firstSlotBeyond_10 lkX1_53 fX1_holdsEntry vX1_holdsEntry (by decide) rfl rfl rfl rfl rfl (by decide) (Nat.le_of_ble_eq_true rfl) ?_
      refine x_if_eq (tgt := 28) hO dX1_firstSlotBeyond_13 (by decide) (fun c2 => ?_) (fun c2 => ?_)
      · refine x_iinc hO dX1_firstSlotBeyond_28 rfl (by first | exact xinc_n _ | rfl) rfl hN ?_
        refine x_goto (tgt := 2) hO dX1_firstSlotBeyond_31 (by decide) ?_
        exact ih (by rw [← hf, nF_f (by simp [pBy, bI_0 c2])])
      · have e : M 21 i = cA M 16 i 4 := cA_in (w := 4) (bI_1 c2) (by decide)
        refine x_aload_n hO dX1_firstSlotBeyond_16 rfl rfl ?_
        refine x_getR (T := TX1) (j := 4) hO dX1_firstSlotBeyond_17 flX1_24 (by decide) rfl rfl (by decide) rfl rfl ?_
        refine x_iload_n hO dX1_firstSlotBeyond_20 rfl rfl ?_
        refine x_iald hO (by decide) rfl (by decide) (rfl) (hi) dX1_firstSlotBeyond_21 ?_
        refine x_iload_n hO dX1_firstSlotBeyond_22 rfl rfl ?_
        refine x_icmp_le (tgt := 28) hO dX1_firstSlotBeyond_23 (by decide) (fun c3 => ?_) (fun c3 => ?_)
        · refine x_iinc hO dX1_firstSlotBeyond_28 rfl (by first | exact xinc_n _ | rfl) rfl hN ?_
          refine x_goto (tgt := 2) hO dX1_firstSlotBeyond_31 (by decide) ?_
          exact ih (by rw [← hf, nF_f (by rw [e] at c3; simp [pBy, Int32.not_lt.mpr c3])])
        · refine x_iload_n hO dX1_firstSlotBeyond_26 rfl rfl ?_
          refine x_iret hO hR dX1_firstSlotBeyond_27 rfl ?_
          exact ⟨by rw [← hf, nF_t (by rw [e] at c3; simp [pBy, bI_1 c2, Int32.not_le.mp c3])], rfl⟩
def pFr (A : aR) (s : Nat) : Bool := !aoc A s
/-- how many moves to the next slots from f on; 33 if there is no way -/
def aMu (A : aR) (f : Nat) : Nat := if nF (pFr A) f (32 - f) < 32 then nF (pFr A) f (32 - f) - f else 33
/-- how many moves to the previous slots from k - 1 down; 33 if there is no way -/
def aMd (A : aR) (k : Nat) : Nat := if nL (pFr A) k = 0 then 33 else k - nL (pFr A) k
theorem k_movesUpFrom (U : xP) (M : xM) {f : Nat} (hfl : f ≤ 32) : xMetI U mX1_movesUpFrom [.inr 16, .inl (nI f)] M (fun r M' => r = nI (aMu (cA M 16) f) ∧ M' = M) := by
  refine xMetI.of (ty := .int) (L := [some (.inr 16), some (.inl (nI f)), none]) fX1_movesUpFrom rfl rfl (Nat.le_of_ble_eq_true rfl) (fun G hN hO hR => ?_)
  have hN : G.2.2.2.2.2.2.2.2.2.2.1 = 3 := hN
  have hO : xOK U G RX1 cX1_movesUpFrom 1 := hO
  generalize hg : nF (pFr (cA M 16)) f (32 - f) = g
  have hgs : aMu (cA M 16) f = if g < 32 then g - f else 33 := by unfold aMu; rw [hg]
  rw [hgs] at hR
  clear hgs
  refine x_iload_n hO dX1_movesUpFrom_0 rfl rfl ?_
  refine x_istore_n (n := 3) hO dX1_movesUpFrom_1 rfl rfl (by decide) hN ?_
  refine upd_ind (P := fun i d => f ≤ i → nF (pFr (cA M 16)) i d = g → XW U G 2 [some (.inr 16), some (.inl (nI f)), some (.inl (nI i))] [] M) 32 ?_ ?_ (32 - f) f (by omega) (Nat.le_refl _) hg
  · intro _ hg
    refine x_iload_n hO dX1_movesUpFrom_2 rfl rfl ?_
    refine x_bipush (v := nI 32) hO dX1_movesUpFrom_3 rfl ?_
    refine x_icmp_ge (tgt := 26) hO dX1_movesUpFrom_5 (by decide) (fun c => ?_) (fun c => ?_)
    · refine x_bipush (v := nI 33) hO dX1_movesUpFrom_26 rfl ?_
      refine x_iret hO hR dX1_movesUpFrom_28 rfl ?_
      exact ⟨by rw [← hg]; rfl, rfl⟩
    · exact absurd (Int32.le_refl _) c
  · intro i d hd ih hfi hg
    have hi : i < 32 := by omega
    refine x_iload_n hO dX1_movesUpFrom_2 rfl rfl ?_
    refine x_bipush (v := nI 32) hO dX1_movesUpFrom_3 rfl ?_
    refine x_icmp_ge (tgt := 26) hO dX1_movesUpFrom_5 (by decide) (fun c => ?_) (fun c => ?_)
    · exact absurd c (nI_ge hi (by decide))
    · refine x_aload_n hO dX1_movesUpFrom_8 rfl rfl ?_
      refine x_iload_n hO dX1_movesUpFrom_9 rfl rfl ?_
      refine x_callV1 hO (k_holds M hi) dX1_movesUpFrom_10 lkX1_53 fX1_holdsEntry vX1_holdsEntry (by decide) rfl rfl rfl rfl rfl (by decide) (Nat.le_of_ble_eq_true rfl) ?_
      refine x_if_ne (tgt := 20) hO dX1_movesUpFrom_13 (by decide) (fun c2 => ?_) (fun c2 => ?_)
      · refine x_iinc hO dX1_movesUpFrom_20 rfl (by first | exact xinc_n _ | rfl) rfl hN ?_
        refine x_goto (tgt := 2) hO dX1_movesUpFrom_23 (by decide) ?_
        exact ih (by omega) (by rw [← hg, nF_f (by simp [pFr, bI_1 c2])])
      · refine x_iload_n hO dX1_movesUpFrom_16 rfl rfl ?_
        refine x_iload_n hO dX1_movesUpFrom_17 rfl rfl ?_
        refine x_isub hO dX1_movesUpFrom_18 ?_
        rw [pk_sub hfi]
        refine x_iret hO hR dX1_movesUpFrom_19 rfl ?_
        exact ⟨by rw [← hg, nF_t (by simp [pFr, bI_0 c2])]; simp [hi], rfl⟩
theorem xm_sub {a b : Nat} (h : b ≤ a) (hb : 0 < b) : xm a - xm b = nI (a - b) := by
  obtain ⟨b, rfl⟩ : ∃ c, b = c + 1 := ⟨b - 1, by omega⟩
  obtain ⟨a, rfl⟩ : ∃ c, a = c + 1 := ⟨a - 1, by omega⟩
  rw [xm_s, xm_s, pk_sub (by omega)]
  congr 1
  omega
theorem k_movesDownFrom (U : xP) (M : xM) {k : Nat} (hkl : k ≤ 32) : xMetI U mX1_movesDownFrom [.inr 16, .inl (xm k)] M (fun r M' => r = nI (aMd (cA M 16) k) ∧ M' = M) := by
  refine xMetI.of (ty := .int) (L := [some (.inr 16), some (.inl (xm k)), none]) fX1_movesDownFrom rfl rfl (Nat.le_of_ble_eq_true rfl) (fun G hN hO hR => ?_)
  have hN : G.2.2.2.2.2.2.2.2.2.2.1 = 3 := hN
  have hO : xOK U G RX1 cX1_movesDownFrom 1 := hO
  generalize hg : nL (pFr (cA M 16)) k = g
  have hgs : aMd (cA M 16) k = if g = 0 then 33 else k - g := by unfold aMd; rw [hg]
  rw [hgs] at hR
  clear hgs
  refine x_iload_n hO dX1_movesDownFrom_0 rfl rfl ?_
  refine x_istore_n (n := 3) hO dX1_movesDownFrom_1 rfl rfl (by decide) hN ?_
  have loop : ∀ i, i ≤ k → nL (pFr (cA M 16)) i = g → XW U G 2 [some (.inr 16), some (.inl (xm k)), some (.inl (xm i))] [] M := by
    intro i
    induction i with
    | zero =>
      intro _ hg
      refine x_iload_n hO dX1_movesDownFrom_2 rfl rfl ?_
      refine x_if_lt (tgt := 24) hO dX1_movesDownFrom_3 (by decide) (fun c => ?_) (fun c => ?_)
      · refine x_bipush (v := nI 33) hO dX1_movesDownFrom_24 rfl ?_
        refine x_iret hO hR dX1_movesDownFrom_26 rfl ?_
        exact ⟨by rw [← hg]; rfl, rfl⟩
      · exact absurd (by decide) c
    | succ i ih =>
      intro hik hg
      have hi : i < 32 := by omega
      refine x_iload_n hO dX1_movesDownFrom_2 rfl rfl ?_
      refine x_if_lt (tgt := 24) hO dX1_movesDownFrom_3 (by decide) (fun c => ?_) (fun c => ?_)
      · exact absurd c (nI_pos (by omega))
      · refine x_aload_n hO dX1_movesDownFrom_6 rfl rfl ?_
        refine x_iload_n hO dX1_movesDownFrom_7 rfl rfl ?_
        refine x_callV1 hO (k_holds M hi) dX1_movesDownFrom_8 lkX1_53 fX1_holdsEntry vX1_holdsEntry (by decide) rfl rfl rfl rfl rfl (by decide) (Nat.le_of_ble_eq_true rfl) ?_
        refine x_if_ne (tgt := 18) hO dX1_movesDownFrom_11 (by decide) (fun c2 => ?_) (fun c2 => ?_)
        · refine x_iinc hO dX1_movesDownFrom_18 rfl (xm_dec i) rfl hN ?_
          refine x_goto (tgt := 2) hO dX1_movesDownFrom_21 (by decide) ?_
          exact ih (by omega) (by rw [← hg, nL_f (by simp [pFr, bI_1 c2])])
        · refine x_iload_n hO dX1_movesDownFrom_14 rfl rfl ?_
          refine x_iload_n hO dX1_movesDownFrom_15 rfl rfl ?_
          refine x_isub hO dX1_movesDownFrom_16 ?_
          rw [xm_sub hik (by omega)]
          refine x_iret hO hR dX1_movesDownFrom_17 rfl ?_
          exact ⟨by rw [← hg, nL_t (by simp [pFr, bI_0 c2])]; simp, rfl⟩
  exact loop k (Nat.le_refl _) hg
end
section
theorem k_min (U : xP) (M : xM) (a b : Nat) (ha : a < 2 ^ 31) (hb : b < 2 ^ 31) : xMetI U mJ9_min_7cf53 [.inl (nI a), .inl (nI b)] M (fun r M' => r = nI (min a b) ∧ M' = M) := by
  refine xMetI.of (ty := .int) (L := [some (.inl (nI a)), some (.inl (nI b))]) fJ9_min_7cf53 rfl rfl (Nat.le_of_ble_eq_true rfl) (fun G hN hO hR => ?_)
  have hN : G.2.2.2.2.2.2.2.2.2.2.1 = 2 := hN
  have hO : xOK U G RJ9 cJ9_min_7cf53 0 := hO
  refine x_iload_n hO dJ9_min_7cf53_0 rfl rfl ?_
  refine x_iload_n hO dJ9_min_7cf53_1 rfl rfl ?_
  refine x_icmp_gt (tgt := 9) hO dJ9_min_7cf53_2 (by decide) (fun c => ?_) (fun c => ?_)
  · refine x_iload_n hO dJ9_min_7cf53_9 rfl rfl ?_
    refine x_iret hO hR dJ9_min_7cf53_10 rfl ?_
    exact ⟨by rw [Nat.min_eq_right (Nat.le_of_lt ((nI_ltI hb ha).mp c))], rfl⟩
  · refine x_iload_n hO dJ9_min_7cf53_5 rfl rfl ?_
    refine x_goto (tgt := 10) hO dJ9_min_7cf53_6 (by decide) ?_
    refine x_iret hO hR dJ9_min_7cf53_10 rfl ?_
    exact ⟨by rw [Nat.min_eq_left (Nat.not_lt.mp (fun q => c ((nI_ltI hb ha).mpr q)))], rfl⟩
theorem k_slotFoundBy (U : xP) (M : xM) (x : Int32) : xMetI U mX1_slotFoundBy [.inr 16, .inl x] M (fun r M' => r = aN (aFd (cA M 16) x) ∧ M' = M) := by
  refine xMetI.of (ty := .int) (L := [some (.inr 16), some (.inl x), none]) fX1_slotFoundBy rfl rfl (Nat.le_of_ble_eq_true rfl) (fun G hN hO hR => ?_)
  have hN : G.2.2.2.2.2.2.2.2.2.2.1 = 3 := hN
  have hO : xOK U G RX1 cX1_slotFoundBy 1 := hO
  generalize hf : aFd (cA M 16) x = f at hR
  refine x_iconst (v := nI 0) hO dX1_slotFoundBy_0 rfl ?_
  refine x_istore_n (n := 3) hO dX1_slotFoundBy_1 rfl rfl (by decide) hN ?_
  refine upd_ind (P := fun i d => nF (pKey (cA M 16) x) i d = f → XW U G 2 [some (.inr 16), some (.inl x), some (.inl (nI i))] [] M) 32 ?_ ?_ 32 0 rfl hf
  · intro hf
    refine x_iload_n hO dX1_slotFoundBy_2 rfl rfl ?_
    refine x_bipush (v := nI 32) hO dX1_slotFoundBy_3 rfl ?_
    refine x_icmp_ge (tgt := 41) hO dX1_slotFoundBy_5 (by decide) (fun c => ?_) (fun c => ?_)
    · refine x_iconst (v := (-1 : Int32)) hO dX1_slotFoundBy_41 rfl ?_
      refine x_iret hO hR dX1_slotFoundBy_42 rfl ?_
      exact ⟨by rw [← hf]; rfl, rfl⟩
    · exact absurd (Int32.le_refl _) c
  · intro i d hd ih hf
    have hi : i < 32 := by omega
    refine x_iload_n hO dX1_slotFoundBy_2 rfl rfl ?_
    refine x_bipush (v := nI 32) hO dX1_slotFoundBy_3 rfl ?_
    refine x_icmp_ge (tgt := 41) hO dX1_slotFoundBy_5 (by decide) (fun c => ?_) (fun c => ?_)
    · exact absurd c (nI_ge hi (by decide))
    · refine x_aload_n hO dX1_slotFoundBy_8 rfl rfl ?_
      refine x_iload_n hO dX1_slotFoundBy_9 rfl rfl ?_
      refine x_callV1 hO (k_holds M hi) dX1_slotFoundBy_10 lkX1_53 fX1_holdsEntry vX1_holdsEntry (by decide) rfl rfl rfl rfl rfl (by decide) (Nat.le_of_ble_eq_true rfl) ?_
      refine x_if_eq (tgt := 35) hO dX1_slotFoundBy_13 (by decide) (fun c2 => ?_) (fun c2 => ?_)
      · refine x_iinc hO dX1_slotFoundBy_35 rfl (by first | exact xinc_n _ | rfl) rfl hN ?_
        refine x_goto (tgt := 2) hO dX1_slotFoundBy_38 (by decide) ?_
        exact ih (by rw [← hf, nF_f (by simp [pKey, bI_0 c2])])
      · have e : M 19 i = cA M 16 i 2 := cA_in (w := 2) (bI_1 c2) (by decide)
        have e1 : M 20 i = cA M 16 i 3 := cA_in (w := 3) (bI_1 c2) (by decide)
        refine x_iload_n hO dX1_slotFoundBy_16 rfl rfl ?_
        refine x_aload_n hO dX1_slotFoundBy_17 rfl rfl ?_
        refine x_getR (T := TX1) (j := 2) hO dX1_slotFoundBy_18 flX1_18 (by decide) rfl rfl (by decide) rfl rfl ?_
        refine x_iload_n hO dX1_slotFoundBy_21 rfl rfl ?_
        refine x_iald hO (by decide) rfl (by decide) (rfl) (hi) dX1_slotFoundBy_22 ?_
        refine x_iand hO dX1_slotFoundBy_23 ?_
        refine x_aload_n hO dX1_slotFoundBy_24 rfl rfl ?_
        refine x_getR (T := TX1) (j := 3) hO dX1_slotFoundBy_25 flX1_21 (by decide) rfl rfl (by decide) rfl rfl ?_
        refine x_iload_n hO dX1_slotFoundBy_28 rfl rfl ?_
        refine x_iald hO (by decide) rfl (by decide) (rfl) (hi) dX1_slotFoundBy_29 ?_
        rw [e, e1]
        refine x_icmp_ne (tgt := 35) hO dX1_slotFoundBy_30 (by decide) (fun c3 => ?_) (fun c3 => ?_)
        · refine x_iinc hO dX1_slotFoundBy_35 rfl (by first | exact xinc_n _ | rfl) rfl hN ?_
          refine x_goto (tgt := 2) hO dX1_slotFoundBy_38 (by decide) ?_
          exact ih (by rw [← hf, nF_f (by simp [pKey, c3])])
        · refine x_iload_n hO dX1_slotFoundBy_33 rfl rfl ?_
          refine x_iret hO hR dX1_slotFoundBy_34 rfl ?_
          exact ⟨by rw [← hf, nF_t (by simp [pKey, bI_1 c2, c3])]; simp [aN, hi], rfl⟩
/-- the keys that the slot x finds, -1: that find none -/
def aKs (A : aR) (x : Int32) (n : Nat) : Nat := nC (fun k => aN (aFd A (nI k)) == x) n
theorem k_keysFinding (U : xP) (M : xM) (x : Int32) : xMetI U mX1_keysFinding [.inr 16, .inl x] M (fun r M' => r = nI (aKs (cA M 16) x 256) ∧ M' = M) := by
  refine xMetI.of (ty := .int) (L := [some (.inr 16), some (.inl x), none, none]) fX1_keysFinding rfl rfl (Nat.le_of_ble_eq_true rfl) (fun G hN hO hR => ?_)
  have hN : G.2.2.2.2.2.2.2.2.2.2.1 = 4 := hN
  have hO : xOK U G RX1 cX1_keysFinding 2 := hO
  refine x_iconst (v := nI 0) hO dX1_keysFinding_0 rfl ?_
  refine x_istore_n (n := 4) hO dX1_keysFinding_1 rfl rfl (by decide) hN ?_
  refine x_iconst (v := nI 0) hO dX1_keysFinding_2 rfl ?_
  refine x_istore_n (n := 4) hO dX1_keysFinding_3 rfl rfl (by decide) hN ?_
  refine upd_ind (P := fun i _ => XW U G 4 [some (.inr 16), some (.inl x), some (.inl (nI (aKs (cA M 16) x i))), some (.inl (nI i))] [] M) 256 ?_ ?_ 256 0 rfl
  · refine x_iload_n hO dX1_keysFinding_4 rfl rfl ?_
    refine x_sipush (v := nI 256) hO dX1_keysFinding_5 rfl ?_
    refine x_icmp_ge (tgt := 29) hO dX1_keysFinding_8 (by decide) (fun c => ?_) (fun c => ?_)
    · refine x_iload_n hO dX1_keysFinding_29 rfl rfl ?_
      refine x_iret hO hR dX1_keysFinding_30 rfl ?_
      exact ⟨rfl, rfl⟩
    · exact absurd (Int32.le_refl _) c
  · intro i d hd ih
    have hi : i < 256 := by omega
    refine x_iload_n hO dX1_keysFinding_4 rfl rfl ?_
    refine x_sipush (v := nI 256) hO dX1_keysFinding_5 rfl ?_
    refine x_icmp_ge (tgt := 29) hO dX1_keysFinding_8 (by decide) (fun c => ?_) (fun c => ?_)
    · exact absurd c (nI_ge hi (by decide))
    · refine x_aload_n hO dX1_keysFinding_11 rfl rfl ?_
      refine x_iload_n hO dX1_keysFinding_12 rfl rfl ?_
      refine x_callV1 hO (k_slotFoundBy U M (nI i)) dX1_keysFinding_13 lkX1_111 fX1_slotFoundBy vX1_slotFoundBy (by decide) rfl rfl rfl rfl rfl (by decide) (Nat.le_of_ble_eq_true rfl) ?_
      refine x_iload_n hO dX1_keysFinding_16 rfl rfl ?_
      refine x_icmp_ne (tgt := 23) hO dX1_keysFinding_17 (by decide) (fun c2 => ?_) (fun c2 => ?_)
      · refine x_iinc hO dX1_keysFinding_23 rfl (by first | exact xinc_n _ | rfl) rfl hN ?_
        refine x_goto (tgt := 4) hO dX1_keysFinding_26 (by decide) ?_
        have e : aKs (cA M 16) x (i + 1) = aKs (cA M 16) x i := nC_f (by simp [c2])
        rw [e] at ih
        exact ih
      · refine x_iinc hO dX1_keysFinding_20 rfl (by first | exact xinc_n _ | rfl) rfl hN ?_
        refine x_iinc hO dX1_keysFinding_23 rfl (by first | exact xinc_n _ | rfl) rfl hN ?_
        refine x_goto (tgt := 4) hO dX1_keysFinding_26 (by decide) ?_
        have e : aKs (cA M 16) x (i + 1) = aKs (cA M 16) x i + 1 := nC_t (by simp [c2])
        rw [e] at ih
        exact ih
/-- a shift to the right with zeros, as the machine does it -/
def us (x : Int32) (n : Nat) : Int32 := (x.toUInt32 >>> ((nI n).toUInt32 &&& Int32.toUInt32 31)).toInt32
def bcI (x : Int32) : Int32 :=
  let a := x - (us x 1 &&& 1431655765)
  let b := (a &&& 858993459) + (us a 2 &&& 858993459)
  let c := (b + us b 4) &&& 252645135
  let d := c + us c 8
  let e := d + us d 16
  e &&& nI 63
theorem k_bitCount (U : xP) (M : xM) (x : Int32) : xMetI U mJ6_bitCount_0f7a4 [.inl x] M (fun r M' => r = bcI x ∧ M' = M) := by
  refine xMetI.of (ty := .int) (L := [some (.inl x)]) fJ6_bitCount_0f7a4 rfl rfl (Nat.le_of_ble_eq_true rfl) (fun G hN hO hR => ?_)
  have hN : G.2.2.2.2.2.2.2.2.2.2.1 = 1 := hN
  have hO : xOK U G RJ6 cJ6_bitCount_0f7a4 0 := hO
  refine x_iload_n hO dJ6_bitCount_0f7a4_0 rfl rfl ?_
  refine x_iload_n hO dJ6_bitCount_0f7a4_1 rfl rfl ?_
  refine x_iconst (v := nI 1) hO dJ6_bitCount_0f7a4_2 rfl ?_
  refine x_iushr hO dJ6_bitCount_0f7a4_3 rfl ?_
  refine x_ldcw (v := (1431655765 : Int32)) hO (xg_r (i := 502) (by decide +kernel) rfl) dJ6_bitCount_0f7a4_4 ?_
  refine x_iand hO dJ6_bitCount_0f7a4_7 ?_
  refine x_isub hO dJ6_bitCount_0f7a4_8 ?_
  refine x_istore_n (n := 1) hO dJ6_bitCount_0f7a4_9 rfl rfl (by decide) hN ?_
  refine x_iload_n hO dJ6_bitCount_0f7a4_10 rfl rfl ?_
  refine x_ldcw (v := (858993459 : Int32)) hO (xg_r (i := 503) (by decide +kernel) rfl) dJ6_bitCount_0f7a4_11 ?_
  refine x_iand hO dJ6_bitCount_0f7a4_14 ?_
  refine x_iload_n hO dJ6_bitCount_0f7a4_15 rfl rfl ?_
  refine x_iconst (v := nI 2) hO dJ6_bitCount_0f7a4_16 rfl ?_
  refine x_iushr hO dJ6_bitCount_0f7a4_17 rfl ?_
  refine x_ldcw (v := (858993459 : Int32)) hO (xg_r (i := 503) (by decide +kernel) rfl) dJ6_bitCount_0f7a4_18 ?_
  refine x_iand hO dJ6_bitCount_0f7a4_21 ?_
  refine x_iadd hO dJ6_bitCount_0f7a4_22 ?_
  refine x_istore_n (n := 1) hO dJ6_bitCount_0f7a4_23 rfl rfl (by decide) hN ?_
  refine x_iload_n hO dJ6_bitCount_0f7a4_24 rfl rfl ?_
  refine x_iload_n hO dJ6_bitCount_0f7a4_25 rfl rfl ?_
  refine x_iconst (v := nI 4) hO dJ6_bitCount_0f7a4_26 rfl ?_
  refine x_iushr hO dJ6_bitCount_0f7a4_27 rfl ?_
  refine x_iadd hO dJ6_bitCount_0f7a4_28 ?_
  refine x_ldcw (v := (252645135 : Int32)) hO (xg_r (i := 504) (by decide +kernel) rfl) dJ6_bitCount_0f7a4_29 ?_
  refine x_iand hO dJ6_bitCount_0f7a4_32 ?_
  refine x_istore_n (n := 1) hO dJ6_bitCount_0f7a4_33 rfl rfl (by decide) hN ?_
  refine x_iload_n hO dJ6_bitCount_0f7a4_34 rfl rfl ?_
  refine x_iload_n hO dJ6_bitCount_0f7a4_35 rfl rfl ?_
  refine x_bipush (v := nI 8) hO dJ6_bitCount_0f7a4_36 rfl ?_
  refine x_iushr hO dJ6_bitCount_0f7a4_38 rfl ?_
  refine x_iadd hO dJ6_bitCount_0f7a4_39 ?_
  refine x_istore_n (n := 1) hO dJ6_bitCount_0f7a4_40 rfl rfl (by decide) hN ?_
  refine x_iload_n hO dJ6_bitCount_0f7a4_41 rfl rfl ?_
  refine x_iload_n hO dJ6_bitCount_0f7a4_42 rfl rfl ?_
  refine x_bipush (v := nI 16) hO dJ6_bitCount_0f7a4_43 rfl ?_
  refine x_iushr hO dJ6_bitCount_0f7a4_45 rfl ?_
  refine x_iadd hO dJ6_bitCount_0f7a4_46 ?_
  refine x_istore_n (n := 1) hO dJ6_bitCount_0f7a4_47 rfl rfl (by decide) hN ?_
  refine x_iload_n hO dJ6_bitCount_0f7a4_48 rfl rfl ?_
  refine x_bipush (v := nI 63) hO dJ6_bitCount_0f7a4_49 rfl ?_
  refine x_iand hO dJ6_bitCount_0f7a4_51 ?_
  refine x_iret hO hR dJ6_bitCount_0f7a4_52 rfl ?_
  exact ⟨rfl, rfl⟩
/-- the slots that the keys below k find, as bits -/
def aFB (A : aR) : Nat → Int32
  | 0 => nI 0
  | k + 1 => if aFd A (nI k) < 32 then aFB A k ||| (nI 1 <<< (nI (aFd A (nI k)) &&& 31)) else aFB A k
theorem k_entriesNeverFound (U : xP) (M : xM) : xMetI U mX1_entriesNeverFound [.inr 16] M (fun r M' => r = nI (aCnt (cA M 16)) - bcI (aFB (cA M 16) 256) ∧ M' = M) := by
  refine xMetI.of (ty := .int) (L := [some (.inr 16), none, none, none]) fX1_entriesNeverFound rfl rfl (Nat.le_of_ble_eq_true rfl) (fun G hN hO hR => ?_)
  have hN : G.2.2.2.2.2.2.2.2.2.2.1 = 4 := hN
  have hO : xOK U G RX1 cX1_entriesNeverFound 3 := hO
  refine x_iconst (v := nI 0) hO dX1_entriesNeverFound_0 rfl ?_
  refine x_istore_n (n := 4) hO dX1_entriesNeverFound_1 rfl rfl (by decide) hN ?_
  refine x_iconst (v := nI 0) hO dX1_entriesNeverFound_2 rfl ?_
  refine x_istore_n (n := 4) hO dX1_entriesNeverFound_3 rfl rfl (by decide) hN ?_
  refine upd_ind (P := fun i _ => ∀ o, XW U G 4 [some (.inr 16), some (.inl (aFB (cA M 16) i)), some (.inl (nI i)), o] [] M) 256 ?_ ?_ 256 0 rfl _
  · intro o
    refine x_iload_n hO dX1_entriesNeverFound_4 rfl rfl ?_
    refine x_sipush (v := nI 256) hO dX1_entriesNeverFound_5 rfl ?_
    refine x_icmp_ge (tgt := 34) hO dX1_entriesNeverFound_8 (by decide) (fun c => ?_) (fun c => ?_)
    · refine x_aload_n hO dX1_entriesNeverFound_34 rfl rfl ?_
      refine x_callV1 hO (k_entries U M) dX1_entriesNeverFound_35 lkX1_60 fX1_entries vX1_entries (by decide) rfl rfl rfl rfl rfl (by decide) (Nat.le_of_ble_eq_true rfl) ?_
      refine x_iload_n hO dX1_entriesNeverFound_38 rfl rfl ?_
      refine x_callS1 hO (k_bitCount U M _) dX1_entriesNeverFound_39 lkX1_114 fJ6_bitCount_0f7a4 sJ6_bitCount_0f7a4 rfl rfl (by decide) (Nat.le_of_ble_eq_true rfl) ?_
      refine x_isub hO dX1_entriesNeverFound_42 ?_
      refine x_iret hO hR dX1_entriesNeverFound_43 rfl ?_
      exact ⟨rfl, rfl⟩
    · exact absurd (Int32.le_refl _) c
  · intro i d hd ih o
    have hi : i < 256 := by omega
    refine x_iload_n hO dX1_entriesNeverFound_4 rfl rfl ?_
    refine x_sipush (v := nI 256) hO dX1_entriesNeverFound_5 rfl ?_
    refine x_icmp_ge (tgt := 34) hO dX1_entriesNeverFound_8 (by decide) (fun c => ?_) (fun c => ?_)
    · exact absurd c (nI_ge hi (by decide))
    · refine x_aload_n hO dX1_entriesNeverFound_11 rfl rfl ?_
      refine x_iload_n hO dX1_entriesNeverFound_12 rfl rfl ?_
      refine x_callV1 hO (k_slotFoundBy U M (nI i)) dX1_entriesNeverFound_13 lkX1_111 fX1_slotFoundBy vX1_slotFoundBy (by decide) rfl rfl rfl rfl rfl (by decide) (Nat.le_of_ble_eq_true rfl) ?_
      refine x_istore_n (n := 4) hO dX1_entriesNeverFound_16 rfl rfl (by decide) hN ?_
      refine x_iload_n hO dX1_entriesNeverFound_17 rfl rfl ?_
      refine x_iconst (v := (-1 : Int32)) hO dX1_entriesNeverFound_18 rfl ?_
      have ih := ih (some (.inl (aN (aFd (cA M 16) (nI i)))))
      simp only [aFB] at ih
      refine x_icmp_eq (tgt := 28) hO dX1_entriesNeverFound_19 (by decide) (fun c2 => ?_) (fun c2 => ?_)
      · refine x_iinc hO dX1_entriesNeverFound_28 rfl (by first | exact xinc_n _ | rfl) rfl hN ?_
        refine x_goto (tgt := 4) hO dX1_entriesNeverFound_31 (by decide) ?_
        rw [if_neg (fun q => by rw [aN, if_pos q] at c2; exact absurd (by rw [c2]; decide) (nI_pos (n := aFd (cA M 16) (nI i)) (by omega)))] at ih
        exact ih
      · have q : aFd (cA M 16) (nI i) < 32 := by
          rcases Nat.lt_or_ge (aFd (cA M 16) (nI i)) 32 with q | q
          · exact q
          · exact absurd (by rw [aN, if_neg (by omega)]) c2
        have e : aN (aFd (cA M 16) (nI i)) = nI (aFd (cA M 16) (nI i)) := by rw [aN, if_pos q]
        rw [if_pos q] at ih
        rw [e] at ih ⊢
        refine x_iload_n hO dX1_entriesNeverFound_22 rfl rfl ?_
        refine x_iconst (v := nI 1) hO dX1_entriesNeverFound_23 rfl ?_
        refine x_iload_n hO dX1_entriesNeverFound_24 rfl rfl ?_
        refine x_ishl hO dX1_entriesNeverFound_25 ?_
        refine x_ior hO dX1_entriesNeverFound_26 ?_
        refine x_istore_n (n := 4) hO dX1_entriesNeverFound_27 rfl rfl (by decide) hN ?_
        refine x_iinc hO dX1_entriesNeverFound_28 rfl (by first | exact xinc_n _ | rfl) rfl hN ?_
        refine x_goto (tgt := 4) hO dX1_entriesNeverFound_31 (by decide) ?_
        exact ih
/-- an entry of the mask m and the value v is hidden by the one in the slot s -/
def pHid (A : aR) (m v : Int32) (s : Nat) : Bool := aoc A s && ((A s 2 &&& m) == A s 2 && (v &&& A s 2) == A s 3)
def aHid (A : aR) (j : Nat) : Int32 := if nF (pHid A (A j 2) (A j 3)) 0 j < j then nI (nF (pHid A (A j 2) (A j 3)) 0 j) else -1
theorem k_slotHiding (U : xP) (M : xM) {j : Nat} (hj : j < 32) : xMetI U mX1_slotHiding [.inr 16, .inl (nI j)] M (fun r M' => r = (if aoc (cA M 16) j then aHid (cA M 16) j else -1) ∧ M' = M) := by
  refine xMetI.of (ty := .int) (L := [some (.inr 16), some (.inl (nI j)), none, none, none]) fX1_slotHiding rfl rfl (Nat.le_of_ble_eq_true rfl) (fun G hN hO hR => ?_)
  have hN : G.2.2.2.2.2.2.2.2.2.2.1 = 5 := hN
  have hO : xOK U G RX1 cX1_slotHiding 1 := hO
  refine x_aload_n hO dX1_slotHiding_0 rfl rfl ?_
  refine x_iload_n hO dX1_slotHiding_1 rfl rfl ?_
  refine x_callV1 hO (k_holds M hj) dX1_slotHiding_2 lkX1_53 fX1_holdsEntry vX1_holdsEntry (by decide) rfl rfl rfl rfl rfl (by decide) (Nat.le_of_ble_eq_true rfl) ?_
  refine x_if_ne (tgt := 10) hO dX1_slotHiding_5 (by decide) (fun c => ?_) (fun c => ?_)
  · have h0 := bI_1 c
    have e2 : M 19 j = cA M 16 j 2 := cA_in (w := 2) h0 (by decide)
    have e3 : M 20 j = cA M 16 j 3 := cA_in (w := 3) h0 (by decide)
    rw [h0] at hR
    simp only [if_true, aHid] at hR
    refine x_aload_n hO dX1_slotHiding_10 rfl rfl ?_
    refine x_getR (T := TX1) (j := 2) hO dX1_slotHiding_11 flX1_18 (by decide) rfl rfl (by decide) rfl rfl ?_
    refine x_iload_n hO dX1_slotHiding_14 rfl rfl ?_
    refine x_iald hO (by decide) rfl (by decide) (rfl) (hj) dX1_slotHiding_15 ?_
    refine x_istore_n (n := 5) hO dX1_slotHiding_16 rfl rfl (by decide) hN ?_
    rw [e2]
    refine x_aload_n hO dX1_slotHiding_17 rfl rfl ?_
    refine x_getR (T := TX1) (j := 3) hO dX1_slotHiding_18 flX1_21 (by decide) rfl rfl (by decide) rfl rfl ?_
    refine x_iload_n hO dX1_slotHiding_21 rfl rfl ?_
    refine x_iald hO (by decide) rfl (by decide) (rfl) (hj) dX1_slotHiding_22 ?_
    refine x_istore_n (n := 5) hO dX1_slotHiding_23 rfl rfl (by decide) hN ?_
    refine x_iconst (v := nI 0) hO dX1_slotHiding_24 rfl ?_
    refine x_istore (n := 5) hO dX1_slotHiding_25 rfl (by decide) hN ?_
    rw [e3]
    generalize cA M 16 j 2 = mm at hR ⊢
    generalize cA M 16 j 3 = vv at hR ⊢
    generalize hf : nF (pHid (cA M 16) mm vv) 0 j = f at hR
    refine upd_ind (P := fun i d => nF (pHid (cA M 16) mm vv) i d = f → XW U G 27 [some (.inr 16), some (.inl (nI j)), some (.inl mm), some (.inl vv), some (.inl (nI i))] [] M) j ?_ ?_ j 0 (by omega) hf
    · intro hf
      refine x_iload hO dX1_slotHiding_27 rfl ?_
      refine x_iload_n hO dX1_slotHiding_29 rfl rfl ?_
      refine x_icmp_ge (tgt := 89) hO dX1_slotHiding_30 (by decide) (fun c1 => ?_) (fun c1 => ?_)
      · refine x_iconst (v := (-1 : Int32)) hO dX1_slotHiding_89 rfl ?_
        refine x_iret hO hR dX1_slotHiding_90 rfl ?_
        exact ⟨by rw [← hf]; simp [nF], rfl⟩
      · exact absurd (Int32.le_refl _) c1
    · intro i d hd ih hf
      have hi : i < 32 := by omega
      refine x_iload hO dX1_slotHiding_27 rfl ?_
      refine x_iload_n hO dX1_slotHiding_29 rfl rfl ?_
      refine x_icmp_ge (tgt := 89) hO dX1_slotHiding_30 (by decide) (fun c1 => ?_) (fun c1 => ?_)
      · exact absurd c1 (nI_ge (by omega) (by omega))
      · refine x_aload_n hO dX1_slotHiding_33 rfl rfl ?_
        refine x_iload hO dX1_slotHiding_34 rfl ?_
        refine x_callV1 hO (k_holds M hi) dX1_slotHiding_36 lkX1_53 fX1_holdsEntry vX1_holdsEntry (by decide) rfl rfl rfl rfl rfl (by decide) (Nat.le_of_ble_eq_true rfl) ?_
        refine x_if_eq (tgt := 83) hO dX1_slotHiding_39 (by decide) (fun c2 => ?_) (fun c2 => ?_)
        · refine x_iinc hO dX1_slotHiding_83 rfl (by first | exact xinc_n _ | rfl) rfl hN ?_
          refine x_goto (tgt := 27) hO dX1_slotHiding_86 (by decide) ?_
          exact ih (by rw [← hf, nF_f (by simp [pHid, bI_0 c2])])
        · have e : M 19 i = cA M 16 i 2 := cA_in (w := 2) (bI_1 c2) (by decide)
          have e1 : M 20 i = cA M 16 i 3 := cA_in (w := 3) (bI_1 c2) (by decide)
          refine x_aload_n hO dX1_slotHiding_42 rfl rfl ?_
          refine x_getR (T := TX1) (j := 2) hO dX1_slotHiding_43 flX1_18 (by decide) rfl rfl (by decide) rfl rfl ?_
          refine x_iload hO dX1_slotHiding_46 rfl ?_
          refine x_iald hO (by decide) rfl (by decide) (rfl) (hi) dX1_slotHiding_48 ?_
          refine x_iload_n hO dX1_slotHiding_49 rfl rfl ?_
          refine x_iand hO dX1_slotHiding_50 ?_
          refine x_aload_n hO dX1_slotHiding_51 rfl rfl ?_
          refine x_getR (T := TX1) (j := 2) hO dX1_slotHiding_52 flX1_18 (by decide) rfl rfl (by decide) rfl rfl ?_
          refine x_iload hO dX1_slotHiding_55 rfl ?_
          refine x_iald hO (by decide) rfl (by decide) (rfl) (hi) dX1_slotHiding_57 ?_
          rw [e]
          refine x_icmp_ne (tgt := 83) hO dX1_slotHiding_58 (by decide) (fun c3 => ?_) (fun c3 => ?_)
          · refine x_iinc hO dX1_slotHiding_83 rfl (by first | exact xinc_n _ | rfl) rfl hN ?_
            refine x_goto (tgt := 27) hO dX1_slotHiding_86 (by decide) ?_
            exact ih (by rw [← hf, nF_f (by simp [pHid, c3])])
          · refine x_iload_n hO dX1_slotHiding_61 rfl rfl ?_
            refine x_aload_n hO dX1_slotHiding_62 rfl rfl ?_
            refine x_getR (T := TX1) (j := 2) hO dX1_slotHiding_63 flX1_18 (by decide) rfl rfl (by decide) rfl rfl ?_
            refine x_iload hO dX1_slotHiding_66 rfl ?_
            refine x_iald hO (by decide) rfl (by decide) (rfl) (hi) dX1_slotHiding_68 ?_
            refine x_iand hO dX1_slotHiding_69 ?_
            refine x_aload_n hO dX1_slotHiding_70 rfl rfl ?_
            refine x_getR (T := TX1) (j := 3) hO dX1_slotHiding_71 flX1_21 (by decide) rfl rfl (by decide) rfl rfl ?_
            refine x_iload hO dX1_slotHiding_74 rfl ?_
            refine x_iald hO (by decide) rfl (by decide) (rfl) (hi) dX1_slotHiding_76 ?_
            rw [e, e1]
            refine x_icmp_ne (tgt := 83) hO dX1_slotHiding_77 (by decide) (fun c4 => ?_) (fun c4 => ?_)
            · refine x_iinc hO dX1_slotHiding_83 rfl (by first | exact xinc_n _ | rfl) rfl hN ?_
              refine x_goto (tgt := 27) hO dX1_slotHiding_86 (by decide) ?_
              exact ih (by rw [← hf, nF_f (by simp [pHid, c4])])
            · refine x_iload hO dX1_slotHiding_80 rfl ?_
              refine x_iret hO hR dX1_slotHiding_82 rfl ?_
              have hij : i < j := by omega
              exact ⟨by rw [← hf, nF_t (by simp [pHid, bI_1 c2, c3, c4])]; simp [hij], rfl⟩
  · refine x_iconst (v := (-1 : Int32)) hO dX1_slotHiding_8 rfl ?_
    refine x_iret hO hR dX1_slotHiding_9 rfl ?_
    exact ⟨by rw [bI_0 c]; rfl, rfl⟩
/-! ===== banks ===== -/
def aFE (A : aR) (b : Nat) : Nat := nF (fun i => aoc A (b * 8 + i)) 0 8
theorem k_firstEntryOfBank (U : xP) (M : xM) {b : Nat} (hb : b < 4) : xMetI U mX1_firstEntryOfBank [.inr 16, .inl (nI b)] M (fun r M' => r = (if aFE (cA M 16) b < 8 then nI (b * 8 + aFE (cA M 16) b) else -1) ∧ M' = M) := by
  refine xMetI.of (ty := .int) (L := [some (.inr 16), some (.inl (nI b)), none]) fX1_firstEntryOfBank rfl rfl (Nat.le_of_ble_eq_true rfl) (fun G hN hO hR => ?_)
  have hN : G.2.2.2.2.2.2.2.2.2.2.1 = 3 := hN
  have hO : xOK U G RX1 cX1_firstEntryOfBank 1 := hO
  generalize hf : aFE (cA M 16) b = f at hR
  refine x_iconst (v := nI 0) hO dX1_firstEntryOfBank_0 rfl ?_
  refine x_istore_n (n := 3) hO dX1_firstEntryOfBank_1 rfl rfl (by decide) hN ?_
  refine upd_ind (P := fun i d => nF (fun i => aoc (cA M 16) (b * 8 + i)) i d = f → XW U G 2 [some (.inr 16), some (.inl (nI b)), some (.inl (nI i))] [] M) 8 ?_ ?_ 8 0 rfl hf
  · intro hf
    refine x_iload_n hO dX1_firstEntryOfBank_2 rfl rfl ?_
    refine x_bipush (v := nI 8) hO dX1_firstEntryOfBank_3 rfl ?_
    refine x_icmp_ge (tgt := 34) hO dX1_firstEntryOfBank_5 (by decide) (fun c => ?_) (fun c => ?_)
    · refine x_iconst (v := (-1 : Int32)) hO dX1_firstEntryOfBank_34 rfl ?_
      refine x_iret hO hR dX1_firstEntryOfBank_35 rfl ?_
      exact ⟨by rw [← hf]; rfl, rfl⟩
    · exact absurd (Int32.le_refl _) c
  · intro i d hd ih hf
    have hi : i < 8 := by omega
    refine x_iload_n hO dX1_firstEntryOfBank_2 rfl rfl ?_
    refine x_bipush (v := nI 8) hO dX1_firstEntryOfBank_3 rfl ?_
    refine x_icmp_ge (tgt := 34) hO dX1_firstEntryOfBank_5 (by decide) (fun c => ?_) (fun c => ?_)
    · exact absurd c (nI_ge hi (by decide))
    · refine x_aload_n hO dX1_firstEntryOfBank_8 rfl rfl ?_
      refine x_iload_n hO dX1_firstEntryOfBank_9 rfl rfl ?_
      refine x_bipush (v := nI 8) hO dX1_firstEntryOfBank_10 rfl ?_
      refine x_imul hO dX1_firstEntryOfBank_12 ?_
      refine x_iload_n hO dX1_firstEntryOfBank_13 rfl rfl ?_
      refine x_iadd hO dX1_firstEntryOfBank_14 ?_
      rw [pk_mul, nI_add]
      refine x_callV1 hO (k_holds M (i := b * 8 + i) (by omega)) dX1_firstEntryOfBank_15 lkX1_53 fX1_holdsEntry vX1_holdsEntry (by decide) rfl rfl rfl rfl rfl (by decide) (Nat.le_of_ble_eq_true rfl) ?_
      refine x_if_eq (tgt := 28) hO dX1_firstEntryOfBank_18 (by decide) (fun c2 => ?_) (fun c2 => ?_)
      · refine x_iinc hO dX1_firstEntryOfBank_28 rfl (by first | exact xinc_n _ | rfl) rfl hN ?_
        refine x_goto (tgt := 2) hO dX1_firstEntryOfBank_31 (by decide) ?_
        exact ih (by rw [← hf, nF_f (P := fun i => aoc (cA M 16) (b * 8 + i)) (bI_0 c2)])
      · refine x_iload_n hO dX1_firstEntryOfBank_21 rfl rfl ?_
        refine x_bipush (v := nI 8) hO dX1_firstEntryOfBank_22 rfl ?_
        refine x_imul hO dX1_firstEntryOfBank_24 ?_
        refine x_iload_n hO dX1_firstEntryOfBank_25 rfl rfl ?_
        refine x_iadd hO dX1_firstEntryOfBank_26 ?_
        rw [pk_mul, nI_add]
        refine x_iret hO hR dX1_firstEntryOfBank_27 rfl ?_
        exact ⟨by rw [← hf, nF_t (P := fun i => aoc (cA M 16) (b * 8 + i)) (bI_1 c2)]; simp [hi], rfl⟩
/-- the bits in which all entries of the bank b's first i slots agree with the slot f -/
def aCM (A : aR) (b f : Nat) : Nat → Int32
  | 0 => A f 2
  | i + 1 => if aoc A (b * 8 + i) then aCM A b f i &&& (A (b * 8 + i) 2 &&& ((A (b * 8 + i) 3 ^^^ A f 3) ^^^ (-1))) else aCM A b f i
def aFM (A : aR) (b : Nat) : Int32 := if aFE A b < 8 then aCM A b (b * 8 + aFE A b) 8 else 0
def aFV (A : aR) (b : Nat) : Int32 := if aFE A b < 8 then A (b * 8 + aFE A b) 3 &&& aFM A b else 0
theorem aFE_oc {A : aR} {b : Nat} (h : aFE A b < 8) : aoc A (b * 8 + aFE A b) = true := nF_yes (P := fun i => aoc A (b * 8 + i)) 8 0 (by show aFE A b < 0 + 8; omega)
theorem k_commonMask (U : xP) (M : xM) {b : Nat} (hb : b < 4) : xMetI U mX1_commonMask [.inr 16, .inl (nI b)] M (fun r M' => r = aFM (cA M 16) b ∧ M' = M) := by
  refine xMetI.of (ty := .int) (L := [some (.inr 16), some (.inl (nI b)), none, none, none, none]) fX1_commonMask rfl rfl (Nat.le_of_ble_eq_true rfl) (fun G hN hO hR => ?_)
  have hN : G.2.2.2.2.2.2.2.2.2.2.1 = 6 := hN
  have hO : xOK U G RX1 cX1_commonMask 2 := hO
  unfold aFM at hR
  refine x_aload_n hO dX1_commonMask_0 rfl rfl ?_
  refine x_iload_n hO dX1_commonMask_1 rfl rfl ?_
  refine x_callV1 hO (k_firstEntryOfBank U M hb) dX1_commonMask_2 lkX1_128 fX1_firstEntryOfBank vX1_firstEntryOfBank (by decide) rfl rfl rfl rfl rfl (by decide) (Nat.le_of_ble_eq_true rfl) ?_
  rcases Nat.lt_or_ge (aFE (cA M 16) b) 8 with hq | hq
  · have h0 := aFE_oc hq
    have hf32 : b * 8 + aFE (cA M 16) b < 32 := by omega
    rw [if_pos hq] at hR ⊢
    generalize hfe : b * 8 + aFE (cA M 16) b = f at *
    have e2 : M 19 f = cA M 16 f 2 := cA_in (w := 2) h0 (by decide)
    have e3 : M 20 f = cA M 16 f 3 := cA_in (w := 3) h0 (by decide)
    refine x_istore_n (n := 6) hO dX1_commonMask_5 rfl rfl (by decide) hN ?_
    refine x_iload_n hO dX1_commonMask_6 rfl rfl ?_
    refine x_callSN1 hO (k_isSlot U M (nI f)) dX1_commonMask_7 lkX1_49 fX3_isSlot sX3_isSlot rfl rfl (by decide) (Nat.le_of_ble_eq_true rfl) ?_
    rw [ixB_n hf32 (by decide)]
    refine x_if_ne (tgt := 15) hO dX1_commonMask_10 (by decide) (fun c => ?_) (fun c => ?_)
    · refine x_aload_n hO dX1_commonMask_15 rfl rfl ?_
      refine x_getR (T := TX1) (j := 2) hO dX1_commonMask_16 flX1_18 (by decide) rfl rfl (by decide) rfl rfl ?_
      refine x_iload_n hO dX1_commonMask_19 rfl rfl ?_
      refine x_iald hO (by decide) rfl (by decide) (rfl) (hf32) dX1_commonMask_20 ?_
      refine x_istore_n (n := 6) hO dX1_commonMask_21 rfl rfl (by decide) hN ?_
      refine x_iconst (v := nI 0) hO dX1_commonMask_22 rfl ?_
      refine x_istore (n := 6) hO dX1_commonMask_23 rfl (by decide) hN ?_
      rw [e2]
      refine upd_ind (P := fun i _ => ∀ o, XW U G 25 [some (.inr 16), some (.inl (nI b)), some (.inl (nI f)), some (.inl (aCM (cA M 16) b f i)), some (.inl (nI i)), o] [] M) 8 ?_ ?_ 8 0 rfl _
      · intro o
        refine x_iload hO dX1_commonMask_25 rfl ?_
        refine x_bipush (v := nI 8) hO dX1_commonMask_27 rfl ?_
        refine x_icmp_ge (tgt := 83) hO dX1_commonMask_29 (by decide) (fun c1 => ?_) (fun c1 => ?_)
        · refine x_iload_n hO dX1_commonMask_83 rfl rfl ?_
          refine x_iret hO hR dX1_commonMask_84 rfl ?_
          exact ⟨rfl, rfl⟩
        · exact absurd (Int32.le_refl _) c1
      · intro i d hd ih o
        have hi : i < 8 := by omega
        have hi32 : b * 8 + i < 32 := by omega
        refine x_iload hO dX1_commonMask_25 rfl ?_
        refine x_bipush (v := nI 8) hO dX1_commonMask_27 rfl ?_
        refine x_icmp_ge (tgt := 83) hO dX1_commonMask_29 (by decide) (fun c1 => ?_) (fun c1 => ?_)
        · exact absurd c1 (nI_ge hi (by decide))
        · refine x_iload_n hO dX1_commonMask_32 rfl rfl ?_
          refine x_bipush (v := nI 8) hO dX1_commonMask_33 rfl ?_
          refine x_imul hO dX1_commonMask_35 ?_
          refine x_iload hO dX1_commonMask_36 rfl ?_
          refine x_iadd hO dX1_commonMask_38 ?_
          rw [pk_mul, nI_add]
          refine x_istore (n := 6) hO dX1_commonMask_39 rfl (by decide) hN ?_
          refine x_aload_n hO dX1_commonMask_41 rfl rfl ?_
          refine x_iload hO dX1_commonMask_42 rfl ?_
          refine x_callV1 hO (k_holds M hi32) dX1_commonMask_44 lkX1_53 fX1_holdsEntry vX1_holdsEntry (by decide) rfl rfl rfl rfl rfl (by decide) (Nat.le_of_ble_eq_true rfl) ?_
          have ih := ih (some (.inl (nI (b * 8 + i))))
          simp only [aCM] at ih
          refine x_if_eq (tgt := 77) hO dX1_commonMask_47 (by decide) (fun c2 => ?_) (fun c2 => ?_)
          · rw [bI_0 c2] at ih
            refine x_iinc hO dX1_commonMask_77 rfl (by first | exact xinc_n _ | rfl) rfl hN ?_
            refine x_goto (tgt := 25) hO dX1_commonMask_80 (by decide) ?_
            exact ih
          · have e : M 19 (b * 8 + i) = cA M 16 (b * 8 + i) 2 := cA_in (w := 2) (bI_1 c2) (by decide)
            have e1 : M 20 (b * 8 + i) = cA M 16 (b * 8 + i) 3 := cA_in (w := 3) (bI_1 c2) (by decide)
            rw [bI_1 c2] at ih
            refine x_iload_n hO dX1_commonMask_50 rfl rfl ?_
            refine x_aload_n hO dX1_commonMask_51 rfl rfl ?_
            refine x_getR (T := TX1) (j := 2) hO dX1_commonMask_52 flX1_18 (by decide) rfl rfl (by decide) rfl rfl ?_
            refine x_iload hO dX1_commonMask_55 rfl ?_
            refine x_iald hO (by decide) rfl (by decide) (rfl) (hi32) dX1_commonMask_57 ?_
            refine x_aload_n hO dX1_commonMask_58 rfl rfl ?_
            refine x_getR (T := TX1) (j := 3) hO dX1_commonMask_59 flX1_21 (by decide) rfl rfl (by decide) rfl rfl ?_
            refine x_iload hO dX1_commonMask_62 rfl ?_
            refine x_iald hO (by decide) rfl (by decide) (rfl) (hi32) dX1_commonMask_64 ?_
            refine x_aload_n hO dX1_commonMask_65 rfl rfl ?_
            refine x_getR (T := TX1) (j := 3) hO dX1_commonMask_66 flX1_21 (by decide) rfl rfl (by decide) rfl rfl ?_
            refine x_iload_n hO dX1_commonMask_69 rfl rfl ?_
            refine x_iald hO (by decide) rfl (by decide) (rfl) (hf32) dX1_commonMask_70 ?_
            refine x_ixor hO dX1_commonMask_71 ?_
            refine x_iconst (v := (-1 : Int32)) hO dX1_commonMask_72 rfl ?_
            refine x_ixor hO dX1_commonMask_73 ?_
            refine x_iand hO dX1_commonMask_74 ?_
            refine x_iand hO dX1_commonMask_75 ?_
            rw [e, e1, e3]
            refine x_istore_n (n := 6) hO dX1_commonMask_76 rfl rfl (by decide) hN ?_
            refine x_iinc hO dX1_commonMask_77 rfl (by first | exact xinc_n _ | rfl) rfl hN ?_
            refine x_goto (tgt := 25) hO dX1_commonMask_80 (by decide) ?_
            exact ih
    · exact absurd c (by decide)
  · rw [if_neg (by omega)] at hR ⊢
    refine x_istore_n (n := 6) hO dX1_commonMask_5 rfl rfl (by decide) hN ?_
    refine x_iload_n hO dX1_commonMask_6 rfl rfl ?_
    refine x_callSN1 hO (k_isSlot U M (-1)) dX1_commonMask_7 lkX1_49 fX3_isSlot sX3_isSlot rfl rfl (by decide) (Nat.le_of_ble_eq_true rfl) ?_
    refine x_if_ne (tgt := 15) hO dX1_commonMask_10 (by decide) (fun c => ?_) (fun c => ?_)
    · exact absurd rfl c
    · refine x_iconst (v := nI 0) hO dX1_commonMask_13 rfl ?_
      refine x_iret hO hR dX1_commonMask_14 rfl ?_
      exact ⟨rfl, rfl⟩
theorem k_commonValue (U : xP) (M : xM) {b : Nat} (hb : b < 4) : xMetI U mX1_commonValue [.inr 16, .inl (nI b)] M (fun r M' => r = aFV (cA M 16) b ∧ M' = M) := by
  refine xMetI.of (ty := .int) (L := [some (.inr 16), some (.inl (nI b)), none]) fX1_commonValue rfl rfl (Nat.le_of_ble_eq_true rfl) (fun G hN hO hR => ?_)
  have hN : G.2.2.2.2.2.2.2.2.2.2.1 = 3 := hN
  have hO : xOK U G RX1 cX1_commonValue 3 := hO
  unfold aFV at hR
  refine x_aload_n hO dX1_commonValue_0 rfl rfl ?_
  refine x_iload_n hO dX1_commonValue_1 rfl rfl ?_
  refine x_callV1 hO (k_firstEntryOfBank U M hb) dX1_commonValue_2 lkX1_128 fX1_firstEntryOfBank vX1_firstEntryOfBank (by decide) rfl rfl rfl rfl rfl (by decide) (Nat.le_of_ble_eq_true rfl) ?_
  rcases Nat.lt_or_ge (aFE (cA M 16) b) 8 with hq | hq
  · have h0 := aFE_oc hq
    have hf32 : b * 8 + aFE (cA M 16) b < 32 := by omega
    rw [if_pos hq] at hR ⊢
    have e3 : M 20 (b * 8 + aFE (cA M 16) b) = cA M 16 (b * 8 + aFE (cA M 16) b) 3 := cA_in (w := 3) h0 (by decide)
    rw [← e3] at hR
    refine x_istore_n (n := 3) hO dX1_commonValue_5 rfl rfl (by decide) hN ?_
    refine x_iload_n hO dX1_commonValue_6 rfl rfl ?_
    refine x_callSN1 hO (k_isSlot U M (nI (b * 8 + aFE (cA M 16) b))) dX1_commonValue_7 lkX1_49 fX3_isSlot sX3_isSlot rfl rfl (by decide) (Nat.le_of_ble_eq_true rfl) ?_
    rw [ixB_n hf32 (by decide)]
    refine x_if_eq (tgt := 28) hO dX1_commonValue_10 (by decide) (fun c => ?_) (fun c => ?_)
    · exact absurd c (by decide)
    · refine x_aload_n hO dX1_commonValue_13 rfl rfl ?_
      refine x_getR (T := TX1) (j := 3) hO dX1_commonValue_14 flX1_21 (by decide) rfl rfl (by decide) rfl rfl ?_
      refine x_iload_n hO dX1_commonValue_17 rfl rfl ?_
      refine x_iald hO (by decide) rfl (by decide) (rfl) (hf32) dX1_commonValue_18 ?_
      refine x_aload_n hO dX1_commonValue_19 rfl rfl ?_
      refine x_iload_n hO dX1_commonValue_20 rfl rfl ?_
      refine x_callV1 hO (k_commonMask U M hb) dX1_commonValue_21 lkX1_122 fX1_commonMask vX1_commonMask (by decide) rfl rfl rfl rfl rfl (by decide) (Nat.le_of_ble_eq_true rfl) ?_
      refine x_iand hO dX1_commonValue_24 ?_
      refine x_goto (tgt := 29) hO dX1_commonValue_25 (by decide) ?_
      refine x_iret hO hR dX1_commonValue_29 rfl ?_
      exact ⟨rfl, rfl⟩
  · rw [if_neg (by omega)] at hR ⊢
    refine x_istore_n (n := 3) hO dX1_commonValue_5 rfl rfl (by decide) hN ?_
    refine x_iload_n hO dX1_commonValue_6 rfl rfl ?_
    refine x_callSN1 hO (k_isSlot U M (-1)) dX1_commonValue_7 lkX1_49 fX3_isSlot sX3_isSlot rfl rfl (by decide) (Nat.le_of_ble_eq_true rfl) ?_
    refine x_if_eq (tgt := 28) hO dX1_commonValue_10 (by decide) (fun c => ?_) (fun c => ?_)
    · refine x_iconst (v := nI 0) hO dX1_commonValue_28 rfl ?_
      refine x_iret hO hR dX1_commonValue_29 rfl ?_
      exact ⟨rfl, rfl⟩
    · exact absurd rfl c
def aPw (A : aR) (k : Int32) : Nat → Nat
  | 0 => 0
  | b + 1 => if (k &&& aFM A b) = aFV A b then aPw A k b + aBank A b else aPw A k b
theorem k_powerFor (U : xP) (M : xM) (x : Int32) : xMetI U mX1_powerFor [.inr 16, .inl x] M (fun r M' => r = nI (aPw (cA M 16) x 4) ∧ M' = M) := by
  refine xMetI.of (ty := .int) (L := [some (.inr 16), some (.inl x), none, none]) fX1_powerFor rfl rfl (Nat.le_of_ble_eq_true rfl) (fun G hN hO hR => ?_)
  have hN : G.2.2.2.2.2.2.2.2.2.2.1 = 4 := hN
  have hO : xOK U G RX1 cX1_powerFor 4 := hO
  refine x_iconst (v := nI 0) hO dX1_powerFor_0 rfl ?_
  refine x_istore_n (n := 4) hO dX1_powerFor_1 rfl rfl (by decide) hN ?_
  refine x_iconst (v := nI 0) hO dX1_powerFor_2 rfl ?_
  refine x_istore_n (n := 4) hO dX1_powerFor_3 rfl rfl (by decide) hN ?_
  refine upd_ind (P := fun i _ => XW U G 4 [some (.inr 16), some (.inl x), some (.inl (nI (aPw (cA M 16) x i))), some (.inl (nI i))] [] M) 4 ?_ ?_ 4 0 rfl
  · refine x_iload_n hO dX1_powerFor_4 rfl rfl ?_
    refine x_iconst (v := nI 4) hO dX1_powerFor_5 rfl ?_
    refine x_icmp_ge (tgt := 38) hO dX1_powerFor_6 (by decide) (fun c => ?_) (fun c => ?_)
    · refine x_iload_n hO dX1_powerFor_38 rfl rfl ?_
      refine x_iret hO hR dX1_powerFor_39 rfl ?_
      exact ⟨rfl, rfl⟩
    · exact absurd (Int32.le_refl _) c
  · intro i d hd ih
    have hi : i < 4 := by omega
    refine x_iload_n hO dX1_powerFor_4 rfl rfl ?_
    refine x_iconst (v := nI 4) hO dX1_powerFor_5 rfl ?_
    refine x_icmp_ge (tgt := 38) hO dX1_powerFor_6 (by decide) (fun c => ?_) (fun c => ?_)
    · exact absurd c (nI_ge hi (by decide))
    · refine x_iload_n hO dX1_powerFor_9 rfl rfl ?_
      refine x_aload_n hO dX1_powerFor_10 rfl rfl ?_
      refine x_iload_n hO dX1_powerFor_11 rfl rfl ?_
      refine x_callV1 hO (k_commonMask U M hi) dX1_powerFor_12 lkX1_122 fX1_commonMask vX1_commonMask (by decide) rfl rfl rfl rfl rfl (by decide) (Nat.le_of_ble_eq_true rfl) ?_
      refine x_iand hO dX1_powerFor_15 ?_
      refine x_aload_n hO dX1_powerFor_16 rfl rfl ?_
      refine x_iload_n hO dX1_powerFor_17 rfl rfl ?_
      refine x_callV1 hO (k_commonValue U M hi) dX1_powerFor_18 lkX1_125 fX1_commonValue vX1_commonValue (by decide) rfl rfl rfl rfl rfl (by decide) (Nat.le_of_ble_eq_true rfl) ?_
      simp only [aPw] at ih
      refine x_icmp_ne (tgt := 32) hO dX1_powerFor_21 (by decide) (fun c2 => ?_) (fun c2 => ?_)
      · rw [if_neg c2] at ih
        refine x_iinc hO dX1_powerFor_32 rfl (by first | exact xinc_n _ | rfl) rfl hN ?_
        refine x_goto (tgt := 4) hO dX1_powerFor_35 (by decide) ?_
        exact ih
      · rw [if_pos c2] at ih
        refine x_iload_n hO dX1_powerFor_24 rfl rfl ?_
        refine x_aload_n hO dX1_powerFor_25 rfl rfl ?_
        refine x_iload_n hO dX1_powerFor_26 rfl rfl ?_
        refine x_callV1 hO (k_entriesInBank U M hi) dX1_powerFor_27 lkX1_56 fX1_entriesInBank vX1_entriesInBank (by decide) rfl rfl rfl rfl rfl (by decide) (Nat.le_of_ble_eq_true rfl) ?_
        refine x_iadd hO dX1_powerFor_30 ?_
        rw [nI_add]
        refine x_istore_n (n := 4) hO dX1_powerFor_31 rfl rfl (by decide) hN ?_
        refine x_iinc hO dX1_powerFor_32 rfl (by first | exact xinc_n _ | rfl) rfl hN ?_
        refine x_goto (tgt := 4) hO dX1_powerFor_35 (by decide) ?_
        exact ih
end
section
/-! ===== moves for a rank, places ===== -/
theorem xm_gap : ∀ b, b < 33 → ∀ p, p < 33 → ((nI b - xm p ≤ nI 1) ↔ b ≤ p) := by decide +kernel
theorem xm_mid : ∀ b, b < 33 → ∀ p, p < b → (xm p + nI b) / nI 2 = nI ((p + b - 1) / 2) := by decide +kernel
theorem xm_inc (p : Nat) : xm p + nI 1 = nI p := by
  cases p with
  | zero => rfl
  | succ p => exact nI_add p 1
/-- the least slot behind the ranks up to r; the least slot of a greater one -/
def aP (A : aR) (r : Int32) : Nat := nL (pUp A r) 32
def aB (A : aR) (r : Int32) : Nat := nF (pBy A r) 0 32
theorem aP_le (A : aR) (r : Int32) : aP A r ≤ 32 := nL_le 32
theorem aB_le (A : aR) (r : Int32) : aB A r ≤ 32 := by have := (nF_le (P := pBy A r) 32 0).2; exact this
theorem aMu_le {A : aR} {f : Nat} (h : aMu A f ≠ 33) : f + aMu A f < 32 ∧ aoc A (f + aMu A f) = false ∧ ∀ j, f ≤ j → j < f + aMu A f → aoc A j = true := by
  unfold aMu at h ⊢
  have a := nF_le (P := pFr A) (32 - f) f
  split at h
  · rename_i q
    rw [if_pos q]
    have y := nF_yes (P := pFr A) (32 - f) f (by omega)
    have e : f + (nF (pFr A) f (32 - f) - f) = nF (pFr A) f (32 - f) := by omega
    rw [e]
    refine ⟨q, by simpa [pFr] using y, fun j h1 h2 => by simpa [pFr] using nF_no (P := pFr A) (32 - f) f j h1 h2⟩
  · exact absurd rfl h
theorem aMu_33 (A : aR) (f : Nat) : aMu A f ≤ 33 := by
  unfold aMu
  have a := nF_le (P := pFr A) (32 - f) f
  split <;> omega
theorem aMd_33 (A : aR) {k : Nat} (hk : k ≤ 32) : aMd A k ≤ 33 := by
  unfold aMd
  split <;> omega
theorem aMd_le {A : aR} {k : Nat} (hk : k ≤ 32) (h : aMd A k ≠ 33) : aMd A k < k ∧ aoc A (k - 1 - aMd A k) = false ∧ ∀ j, k - 1 - aMd A k < j → j < k → aoc A j = true := by
  unfold aMd at h ⊢
  have a := nL_le (P := pFr A) k
  split at h
  · exact absurd rfl h
  · rename_i q
    rw [if_neg q]
    obtain ⟨j0, e⟩ : ∃ j0, nL (pFr A) k = j0 + 1 := ⟨nL (pFr A) k - 1, by omega⟩
    have y := nL_yes e
    rw [e] at a ⊢
    have e2 : k - 1 - (k - (j0 + 1)) = j0 := by omega
    rw [e2]
    refine ⟨by omega, by simpa [pFr] using y, fun j h1 h2 => by simpa [pFr] using nL_no (P := pFr A) (n := k) (by rw [e]; omega) h2⟩
/-- how many entries are moved for one of the rank r -/
def oM (A : aR) (r : Int32) : Nat := if aP A r < aB A r then 0 else min (aMu A (aB A r)) (aMd A (aP A r))
theorem k_movesFor (U : xP) (M : xM) (x : Int32) : xMetI U mX1_movesFor [.inr 16, .inl x] M (fun r M' => r = nI (oM (cA M 16) x) ∧ M' = M) := by
  refine xMetI.of (ty := .int) (L := [some (.inr 16), some (.inl x), none, none]) fX1_movesFor rfl rfl (Nat.le_of_ble_eq_true rfl) (fun G hN hO hR => ?_)
  have hN : G.2.2.2.2.2.2.2.2.2.2.1 = 4 := hN
  have hO : xOK U G RX1 cX1_movesFor 2 := hO
  unfold oM at hR
  refine x_aload_n hO dX1_movesFor_0 rfl rfl ?_
  refine x_iload_n hO dX1_movesFor_1 rfl rfl ?_
  refine x_callV1 hO (k_lastSlotUpTo U M x) dX1_movesFor_2 lkX1_75 fX1_lastSlotUpTo vX1_lastSlotUpTo (by decide) rfl rfl rfl rfl rfl (by decide) (Nat.le_of_ble_eq_true rfl) ?_
  refine x_istore_n (n := 4) hO dX1_movesFor_5 rfl rfl (by decide) hN ?_
  refine x_aload_n hO dX1_movesFor_6 rfl rfl ?_
  refine x_iload_n hO dX1_movesFor_7 rfl rfl ?_
  refine x_callV1 hO (k_firstSlotBeyond U M x) dX1_movesFor_8 lkX1_78 fX1_firstSlotBeyond vX1_firstSlotBeyond (by decide) rfl rfl rfl rfl rfl (by decide) (Nat.le_of_ble_eq_true rfl) ?_
  refine x_istore_n (n := 4) hO dX1_movesFor_11 rfl rfl (by decide) hN ?_
  refine x_iload_n hO dX1_movesFor_12 rfl rfl ?_
  refine x_iload_n hO dX1_movesFor_13 rfl rfl ?_
  refine x_isub hO dX1_movesFor_14 ?_
  refine x_iconst (v := nI 1) hO dX1_movesFor_15 rfl ?_
  have h1 := aP_le (cA M 16) x
  have h2 := aB_le (cA M 16) x
  change XW U G _ _ [.inl (nI 1), .inl (nI (aB (cA M 16) x) - xm (aP (cA M 16) x))] M
  refine x_icmp_le (tgt := 21) hO dX1_movesFor_16 (by decide) (fun c => ?_) (fun c => ?_)
  · have q : aB (cA M 16) x ≤ aP (cA M 16) x := (xm_gap _ (by omega) _ (by omega)).mp c
    rw [if_neg (by omega)] at hR
    refine x_aload_n hO dX1_movesFor_21 rfl rfl ?_
    refine x_iload_n hO dX1_movesFor_22 rfl rfl ?_
    refine x_callV1 hO (k_movesUpFrom U M h2) dX1_movesFor_23 lkX1_84 fX1_movesUpFrom vX1_movesUpFrom (by decide) rfl rfl rfl rfl rfl (by decide) (Nat.le_of_ble_eq_true rfl) ?_
    refine x_aload_n hO dX1_movesFor_26 rfl rfl ?_
    refine x_iload_n hO dX1_movesFor_27 rfl rfl ?_
    refine x_callV1 hO (k_movesDownFrom U M h1) dX1_movesFor_28 lkX1_87 fX1_movesDownFrom vX1_movesDownFrom (by decide) rfl rfl rfl rfl rfl (by decide) (Nat.le_of_ble_eq_true rfl) ?_
    refine x_callS1 hO (k_min U M _ _ (by have := aMu_33 (cA M 16) (aB (cA M 16) x); omega) (by have := aMd_33 (cA M 16) h1; omega)) dX1_movesFor_31 lkX1_97 fJ9_min_7cf53 sJ9_min_7cf53 rfl rfl (by decide) (Nat.le_of_ble_eq_true rfl) ?_
    refine x_iret hO hR dX1_movesFor_34 rfl ?_
    exact ⟨rfl, rfl⟩
  · have q : aP (cA M 16) x < aB (cA M 16) x := by
      rcases Nat.lt_or_ge (aP (cA M 16) x) (aB (cA M 16) x) with q | q
      · exact q
      · exact absurd ((xm_gap _ (by omega) _ (by omega)).mpr q) c
    rw [if_pos q] at hR
    refine x_iconst (v := nI 0) hO dX1_movesFor_19 rfl ?_
    refine x_iret hO hR dX1_movesFor_20 rfl ?_
    exact ⟨rfl, rfl⟩
/-- the slot between p - 1 and b by the placing rule P -/
def aPl (P : Int32) (p b : Nat) : Nat := if P = 0 then p else if P = nI 1 then (p + b - 1) / 2 else b - 1
theorem k_placeBetween (U : xP) (M : xM) {p b : Nat} (hb : b ≤ 32) (hp : p < b) : xMetI U mX1_placeBetween [.inr 16, .inl (xm p), .inl (nI b)] M (fun r M' => r = nI (aPl (M 16 7) p b) ∧ M' = M) := by
  refine xMetI.of (ty := .int) (L := [some (.inr 16), some (.inl (xm p)), some (.inl (nI b))]) fX1_placeBetween rfl rfl (Nat.le_of_ble_eq_true rfl) (fun G hN hO hR => ?_)
  have hN : G.2.2.2.2.2.2.2.2.2.2.1 = 3 := hN
  have hO : xOK U G RX1 cX1_placeBetween 0 := hO
  unfold aPl at hR
  refine x_aload_n hO dX1_placeBetween_0 rfl rfl ?_
  refine x_getI (T := TX1) (j := 7) hO dX1_placeBetween_1 flX1_33 (by decide) rfl rfl (by decide) rfl rfl ?_
  refine x_if_ne (tgt := 11) hO dX1_placeBetween_4 (by decide) (fun c => ?_) (fun c => ?_)
  · refine x_aload_n hO dX1_placeBetween_11 rfl rfl ?_
    refine x_getI (T := TX1) (j := 7) hO dX1_placeBetween_12 flX1_33 (by decide) rfl rfl (by decide) rfl rfl ?_
    refine x_iconst (v := nI 1) hO dX1_placeBetween_15 rfl ?_
    rw [if_neg c] at hR
    refine x_icmp_ne (tgt := 27) hO dX1_placeBetween_16 (by decide) (fun c2 => ?_) (fun c2 => ?_)
    · refine x_iload_n hO dX1_placeBetween_27 rfl rfl ?_
      refine x_iconst (v := nI 1) hO dX1_placeBetween_28 rfl ?_
      refine x_isub hO dX1_placeBetween_29 ?_
      rw [if_neg c2] at hR
      rw [pk_sub (by omega)]
      refine x_iret hO hR dX1_placeBetween_30 rfl ?_
      exact ⟨rfl, rfl⟩
    · refine x_iload_n hO dX1_placeBetween_19 rfl rfl ?_
      refine x_iload_n hO dX1_placeBetween_20 rfl rfl ?_
      refine x_iadd hO dX1_placeBetween_21 ?_
      refine x_iconst (v := nI 2) hO dX1_placeBetween_22 rfl ?_
      refine x_idiv hO dX1_placeBetween_23 (by decide) ?_
      refine x_goto (tgt := 30) hO dX1_placeBetween_24 (by decide) ?_
      rw [if_pos c2] at hR
      rw [xm_mid b (by omega) p hp]
      refine x_iret hO hR dX1_placeBetween_30 rfl ?_
      exact ⟨rfl, rfl⟩
  · refine x_iload_n hO dX1_placeBetween_7 rfl rfl ?_
    refine x_iconst (v := nI 1) hO dX1_placeBetween_8 rfl ?_
    refine x_iadd hO dX1_placeBetween_9 ?_
    rw [xm_inc]
    rw [if_pos c] at hR
    refine x_iret hO hR dX1_placeBetween_10 rfl ?_
    exact ⟨rfl, rfl⟩
/-! ===== shares ===== -/
/-- the slot of the entry with the place p, of n shares -/
def aTg (n p : Nat) : Nat := if n = 0 then p else 32 * p / n
theorem aTg_lt {n p : Nat} (hp : p < n ∨ (n = 0 ∧ p < 32)) : aTg n p < 32 := by
  unfold aTg
  split
  · omega
  · rename_i q
    exact (Nat.div_lt_iff_lt_mul (by omega)).mpr (by omega)
theorem k_firstSlotOfShare (U : xP) (M : xM) {p n : Nat} (hp : p ≤ 32) (hn : n ≤ 32) : xMetI U mX1_firstSlotOfShare [.inl (nI p), .inl (nI n)] M (fun r M' => r = nI (aTg n p) ∧ M' = M) := by
  refine xMetI.of (ty := .int) (L := [some (.inl (nI p)), some (.inl (nI n))]) fX1_firstSlotOfShare rfl rfl (Nat.le_of_ble_eq_true rfl) (fun G hN hO hR => ?_)
  have hN : G.2.2.2.2.2.2.2.2.2.2.1 = 2 := hN
  have hO : xOK U G RX1 cX1_firstSlotOfShare 0 := hO
  unfold aTg at hR
  refine x_iload_n hO dX1_firstSlotOfShare_0 rfl rfl ?_
  refine x_if_le (tgt := 13) hO dX1_firstSlotOfShare_1 (by decide) (fun c => ?_) (fun c => ?_)
  · have q : n = 0 := by have := (nI_leI (b := 0) (by omega) (by decide)).mp c; omega
    rw [if_pos q] at hR
    refine x_iload_n hO dX1_firstSlotOfShare_13 rfl rfl ?_
    refine x_iret hO hR dX1_firstSlotOfShare_14 rfl ?_
    exact ⟨rfl, rfl⟩
  · have q : ¬ n = 0 := by rintro rfl; exact c (Int32.le_refl _)
    rw [if_neg q] at hR
    have q0 : ¬ nI n = 0 := fun z => q ((nI_eq (b := 0) (by omega) (by decide)).mp z)
    refine x_bipush (v := nI 32) hO dX1_firstSlotOfShare_4 rfl ?_
    refine x_iload_n hO dX1_firstSlotOfShare_6 rfl rfl ?_
    refine x_imul hO dX1_firstSlotOfShare_7 ?_
    refine x_iload_n hO dX1_firstSlotOfShare_8 rfl rfl ?_
    refine x_idiv hO dX1_firstSlotOfShare_9 (q0) ?_
    rw [pk_mul, pk_div (by omega) (by omega) (by omega)]
    refine x_goto (tgt := 14) hO dX1_firstSlotOfShare_10 (by decide) ?_
    refine x_iret hO hR dX1_firstSlotOfShare_14 rfl ?_
    exact ⟨rfl, rfl⟩
/-- the entry in the slot s would be in another slot, with n shares -/
def pOut (A : aR) (n s : Nat) : Bool := aoc A s && !(s == aTg n (nC (aoc A) s))
theorem k_entriesOutOfShare (U : xP) (M : xM) {n : Nat} (hn : n ≤ 32) : xMetI U mX1_entriesOutOfShare [.inr 16, .inl (nI n)] M (fun r M' => r = nI (nC (pOut (cA M 16) n) 32) ∧ M' = M) := by
  refine xMetI.of (ty := .int) (L := [some (.inr 16), some (.inl (nI n)), none, none, none]) fX1_entriesOutOfShare rfl rfl (Nat.le_of_ble_eq_true rfl) (fun G hN hO hR => ?_)
  have hN : G.2.2.2.2.2.2.2.2.2.2.1 = 5 := hN
  have hO : xOK U G RX1 cX1_entriesOutOfShare 1 := hO
  refine x_iconst (v := nI 0) hO dX1_entriesOutOfShare_0 rfl ?_
  refine x_istore_n (n := 5) hO dX1_entriesOutOfShare_1 rfl rfl (by decide) hN ?_
  refine x_iconst (v := nI 0) hO dX1_entriesOutOfShare_2 rfl ?_
  refine x_istore_n (n := 5) hO dX1_entriesOutOfShare_3 rfl rfl (by decide) hN ?_
  refine x_iconst (v := nI 0) hO dX1_entriesOutOfShare_4 rfl ?_
  refine x_istore (n := 5) hO dX1_entriesOutOfShare_5 rfl (by decide) hN ?_
  refine upd_ind (P := fun i _ => XW U G 7 [some (.inr 16), some (.inl (nI n)), some (.inl (nI (nC (aoc (cA M 16)) i))), some (.inl (nI (nC (pOut (cA M 16) n) i))), some (.inl (nI i))] [] M) 32 ?_ ?_ 32 0 rfl
  · refine x_iload hO dX1_entriesOutOfShare_7 rfl ?_
    refine x_bipush (v := nI 32) hO dX1_entriesOutOfShare_9 rfl ?_
    refine x_icmp_ge (tgt := 45) hO dX1_entriesOutOfShare_11 (by decide) (fun c => ?_) (fun c => ?_)
    · refine x_iload_n hO dX1_entriesOutOfShare_45 rfl rfl ?_
      refine x_iret hO hR dX1_entriesOutOfShare_46 rfl ?_
      exact ⟨rfl, rfl⟩
    · exact absurd (Int32.le_refl _) c
  · intro i d hd ih
    have hi : i < 32 := by omega
    refine x_iload hO dX1_entriesOutOfShare_7 rfl ?_
    refine x_bipush (v := nI 32) hO dX1_entriesOutOfShare_9 rfl ?_
    refine x_icmp_ge (tgt := 45) hO dX1_entriesOutOfShare_11 (by decide) (fun c => ?_) (fun c => ?_)
    · exact absurd c (nI_ge hi (by decide))
    · refine x_aload_n hO dX1_entriesOutOfShare_14 rfl rfl ?_
      refine x_iload hO dX1_entriesOutOfShare_15 rfl ?_
      refine x_callV1 hO (k_holds M hi) dX1_entriesOutOfShare_17 lkX1_53 fX1_holdsEntry vX1_holdsEntry (by decide) rfl rfl rfl rfl rfl (by decide) (Nat.le_of_ble_eq_true rfl) ?_
      refine x_if_eq (tgt := 39) hO dX1_entriesOutOfShare_20 (by decide) (fun c2 => ?_) (fun c2 => ?_)
      · refine x_iinc hO dX1_entriesOutOfShare_39 rfl (by first | exact xinc_n _ | rfl) rfl hN ?_
        refine x_goto (tgt := 7) hO dX1_entriesOutOfShare_42 (by decide) ?_
        rw [nC_f (bI_0 c2), nC_f (P := pOut (cA M 16) n) (by simp [pOut, bI_0 c2])] at ih
        exact ih
      · have hc := nC_le (aoc (cA M 16)) i
        have ht : aTg n (nC (aoc (cA M 16)) i) < 2 ^ 31 := by
          unfold aTg
          split
          · omega
          · have := Nat.div_le_self (32 * nC (aoc (cA M 16)) i) n
            omega
        rw [nC_t (bI_1 c2)] at ih
        refine x_iload hO dX1_entriesOutOfShare_23 rfl ?_
        refine x_iload_n hO dX1_entriesOutOfShare_25 rfl rfl ?_
        refine x_iload_n hO dX1_entriesOutOfShare_26 rfl rfl ?_
        refine x_callS1 hO (k_firstSlotOfShare U M (by omega) hn) dX1_entriesOutOfShare_27 lkX1_105 fX1_firstSlotOfShare sX1_firstSlotOfShare rfl rfl (by decide) (Nat.le_of_ble_eq_true rfl) ?_
        refine x_icmp_eq (tgt := 36) hO dX1_entriesOutOfShare_30 (by decide) (fun c3 => ?_) (fun c3 => ?_)
        · rw [nC_f (P := pOut (cA M 16) n) (by unfold pOut; rw [bI_1 c2, beq_iff_eq.mpr ((nI_eq (by omega) ht).mp c3)]; rfl)] at ih
          refine x_iinc hO dX1_entriesOutOfShare_36 rfl (by first | exact xinc_n _ | rfl) rfl hN ?_
          refine x_iinc hO dX1_entriesOutOfShare_39 rfl (by first | exact xinc_n _ | rfl) rfl hN ?_
          refine x_goto (tgt := 7) hO dX1_entriesOutOfShare_42 (by decide) ?_
          exact ih
        · have q : ¬ i = aTg n (nC (aoc (cA M 16)) i) := fun q => c3 ((nI_eq (by omega) ht).mpr q)
          rw [nC_t (P := pOut (cA M 16) n) (by simp [pOut, bI_1 c2, q])] at ih
          refine x_iinc hO dX1_entriesOutOfShare_33 rfl (by first | exact xinc_n _ | rfl) rfl hN ?_
          refine x_iinc hO dX1_entriesOutOfShare_36 rfl (by first | exact xinc_n _ | rfl) rfl hN ?_
          refine x_iinc hO dX1_entriesOutOfShare_39 rfl (by first | exact xinc_n _ | rfl) rfl hN ?_
          refine x_goto (tgt := 7) hO dX1_entriesOutOfShare_42 (by decide) ?_
          exact ih
end
section
/-! ===== what a memory's rows are behind a change ===== -/
theorem xset_at (M : xM) (k j : Nat) (x : Int32) (a b : Nat) : xset M k j x a b = if a = k then (if b = j then x else M a b) else M a b := by
  unfold xset xup upd
  split
  · rename_i h; subst h; rfl
  · rfl
theorem all7 {P : Nat → Prop} (h0 : P 0) (h1 : P 1) (h2 : P 2) (h3 : P 3) (h4 : P 4) (h5 : P 5) (h6 : P 6) : ∀ w, w < 7 → P w := by
  intro w hw
  match w, hw with
  | 0, _ => exact h0
  | 1, _ => exact h1
  | 2, _ => exact h2
  | 3, _ => exact h3
  | 4, _ => exact h4
  | 5, _ => exact h5
  | 6, _ => exact h6
theorem cA_row {M M' : xM} {b b' s t : Nat} (hs : s < 32) (ht : t < 32) (h : ∀ w, w < 7 → M' (b' + 1 + w) s = M (b + 1 + w) t) : cA M' b' s = cA M b t := by
  have h0 : M' (b' + 1) s = M (b + 1) t := h 0 (by decide)
  have h1 : M' (b' + 2) s = M (b + 2) t := h 1 (by decide)
  have h6 : M' (b' + 7) s = M (b + 7) t := h 6 (by decide)
  funext w
  unfold cA occ
  rw [h0, h1, h6, decide_eq_true hs, decide_eq_true ht]
  split
  · split
    · rename_i hw
      exact h w (by omega)
    · rfl
  · rfl
theorem cA_free {M : xM} {b s : Nat} (h : M (b + 1) s = -1) : cA M b s = eR := by
  funext w
  unfold cA occ
  rw [h]
  simp
theorem cA_ge {M : xM} {b s : Nat} (h : 32 ≤ s) : cA M b s = eR := by
  funext w
  unfold cA occ
  rw [decide_eq_false (by omega)]
  simp
theorem cA_ext {M : xM} {b : Nat} {A : aR} (h : ∀ s, s < 32 → cA M b s = A s) (h2 : ∀ s, 32 ≤ s → A s = eR) : cA M b = A := by
  funext s
  rcases Nat.lt_or_ge s 32 with q | q
  · exact h s q
  · rw [cA_ge q, h2 s q]
theorem cA_none {M : xM} {b s : Nat} (h : aoc (cA M b) s = false) : cA M b s = eR := by
  rw [cA_oc] at h
  funext w
  unfold cA
  rw [h]
  rfl
theorem aoc_eR {A : aR} {s : Nat} (h : A s = eR) : aoc A s = false := by unfold aoc; rw [h]; rfl
/-- the memory now has the rows A' and the numbers g', and nothing else has changed -/
def mSt (M M' : xM) (A' : aR) (g' : Nat → Int32) : Prop := cA M' 16 = A' ∧ M' 16 = g' ∧ ∀ k, (k < 16 ∨ 24 ≤ k) → M' k = M k
theorem mSt.rf (M : xM) : mSt M M (cA M 16) (M 16) := ⟨rfl, rfl, fun _ _ => rfl⟩
theorem mSt.tr {M M1 M2 : xM} {A1 A2 : aR} {g1 g2 : Nat → Int32} (h1 : mSt M M1 A1 g1) (h2 : mSt M1 M2 A2 g2) : mSt M M2 A2 g2 := ⟨h2.1, h2.2.1, fun k hk => by rw [h2.2.2 k hk, h1.2.2 k hk]⟩
theorem mSt.num {M : xM} (j : Nat) (hj : 7 ≤ j) (x : Int32) : mSt M (xset M 16 j x) (cA M 16) (upd (M 16) j x) := by
  refine ⟨?_, ?_, fun k hk => ?_⟩
  · refine cA_ext (fun s hs => cA_row hs hs (fun w hw => ?_)) (fun s hs => cA_ge hs)
    rw [xset_at, if_neg (by omega)]
  · funext a
    rw [xset_at, if_pos rfl]
    rfl
  · funext a
    rw [xset_at, if_neg (by omega)]
/-! ===== Memory.moveEntry ===== -/
def aMv (A : aR) (i j : Nat) : aR := fun s => if i = j then A s else if s = i then eR else if s = j then A i else A s
theorem k_moveEntry (U : xP) (M : xM) {i j : Nat} (hi : i < 32) (hj : j < 32) : xMetV U mX1_moveEntry [.inr 16, .inl (nI i), .inl (nI j)] M (fun M' => mSt M M' (aMv (cA M 16) i j) (M 16)) := by
  refine xMetV.of (L := [some (.inr 16), some (.inl (nI i)), some (.inl (nI j))]) fX1_moveEntry rfl rfl (Nat.le_of_ble_eq_true rfl) (fun G hN hO hR => ?_)
  have hN : G.2.2.2.2.2.2.2.2.2.2.1 = 3 := hN
  have hO : xOK U G RX1 cX1_moveEntry 1 := hO
  refine x_iload_n hO dX1_moveEntry_0 rfl rfl ?_
  refine x_iload_n hO dX1_moveEntry_1 rfl rfl ?_
  refine x_icmp_eq (tgt := 19) hO dX1_moveEntry_2 (by decide) (fun c => ?_) (fun c => ?_)
  · have q : i = j := (nI_eq (by omega) (by omega)).mp c
    refine x_vret hO hR dX1_moveEntry_19 ?_
    have e : aMv (cA M 16) i j = cA M 16 := by funext s; simp [aMv, q]
    rw [e]
    exact mSt.rf M
  · have q : ¬ i = j := fun q => c (by rw [q])
    refine x_iload_n hO dX1_moveEntry_5 rfl rfl ?_
    refine x_callSN1 hO (k_isSlot U M (nI i)) dX1_moveEntry_6 lkX1_49 fX3_isSlot sX3_isSlot rfl rfl (by decide) (Nat.le_of_ble_eq_true rfl) ?_
    rw [ixB_n hi (by decide)]
    refine x_if_eq (tgt := 19) hO dX1_moveEntry_9 (by decide) (fun c1 => ?_) (fun c1 => ?_)
    · exact absurd c1 (by decide)
    · refine x_iload_n hO dX1_moveEntry_12 rfl rfl ?_
      refine x_callSN1 hO (k_isSlot U M (nI j)) dX1_moveEntry_13 lkX1_49 fX3_isSlot sX3_isSlot rfl rfl (by decide) (Nat.le_of_ble_eq_true rfl) ?_
      rw [ixB_n hj (by decide)]
      refine x_if_ne (tgt := 20) hO dX1_moveEntry_16 (by decide) (fun c2 => ?_) (fun c2 => ?_)
      · refine x_aload_n hO dX1_moveEntry_20 rfl rfl ?_
        refine x_getR (T := TX1) (j := 0) hO dX1_moveEntry_21 flX1_9 (by decide) rfl rfl (by decide) rfl rfl ?_
        refine x_iload_n hO dX1_moveEntry_24 rfl rfl ?_
        refine x_aload_n hO dX1_moveEntry_25 rfl rfl ?_
        refine x_getR (T := TX1) (j := 0) hO dX1_moveEntry_26 flX1_9 (by decide) rfl rfl (by decide) rfl rfl ?_
        refine x_iload_n hO dX1_moveEntry_29 rfl rfl ?_
        refine x_iald hO (by decide) rfl (by decide) (rfl) (hi) dX1_moveEntry_30 ?_
        refine x_iast hO (by decide) rfl (by decide) (rfl) (hj) dX1_moveEntry_31 ?_
        refine x_aload_n hO dX1_moveEntry_32 rfl rfl ?_
        refine x_getR (T := TX1) (j := 1) hO dX1_moveEntry_33 flX1_15 (by decide) rfl rfl (by decide) rfl rfl ?_
        refine x_iload_n hO dX1_moveEntry_36 rfl rfl ?_
        refine x_aload_n hO dX1_moveEntry_37 rfl rfl ?_
        refine x_getR (T := TX1) (j := 1) hO dX1_moveEntry_38 flX1_15 (by decide) rfl rfl (by decide) rfl rfl ?_
        refine x_iload_n hO dX1_moveEntry_41 rfl rfl ?_
        refine x_iald hO (by decide) rfl (by decide) (rfl) (hi) dX1_moveEntry_42 ?_
        refine x_iast hO (by decide) rfl (by decide) (rfl) (hj) dX1_moveEntry_43 ?_
        refine x_aload_n hO dX1_moveEntry_44 rfl rfl ?_
        refine x_getR (T := TX1) (j := 2) hO dX1_moveEntry_45 flX1_18 (by decide) rfl rfl (by decide) rfl rfl ?_
        refine x_iload_n hO dX1_moveEntry_48 rfl rfl ?_
        refine x_aload_n hO dX1_moveEntry_49 rfl rfl ?_
        refine x_getR (T := TX1) (j := 2) hO dX1_moveEntry_50 flX1_18 (by decide) rfl rfl (by decide) rfl rfl ?_
        refine x_iload_n hO dX1_moveEntry_53 rfl rfl ?_
        refine x_iald hO (by decide) rfl (by decide) (rfl) (hi) dX1_moveEntry_54 ?_
        refine x_iast hO (by decide) rfl (by decide) (rfl) (hj) dX1_moveEntry_55 ?_
        refine x_aload_n hO dX1_moveEntry_56 rfl rfl ?_
        refine x_getR (T := TX1) (j := 3) hO dX1_moveEntry_57 flX1_21 (by decide) rfl rfl (by decide) rfl rfl ?_
        refine x_iload_n hO dX1_moveEntry_60 rfl rfl ?_
        refine x_aload_n hO dX1_moveEntry_61 rfl rfl ?_
        refine x_getR (T := TX1) (j := 3) hO dX1_moveEntry_62 flX1_21 (by decide) rfl rfl (by decide) rfl rfl ?_
        refine x_iload_n hO dX1_moveEntry_65 rfl rfl ?_
        refine x_iald hO (by decide) rfl (by decide) (rfl) (hi) dX1_moveEntry_66 ?_
        refine x_iast hO (by decide) rfl (by decide) (rfl) (hj) dX1_moveEntry_67 ?_
        refine x_aload_n hO dX1_moveEntry_68 rfl rfl ?_
        refine x_getR (T := TX1) (j := 4) hO dX1_moveEntry_69 flX1_24 (by decide) rfl rfl (by decide) rfl rfl ?_
        refine x_iload_n hO dX1_moveEntry_72 rfl rfl ?_
        refine x_aload_n hO dX1_moveEntry_73 rfl rfl ?_
        refine x_getR (T := TX1) (j := 4) hO dX1_moveEntry_74 flX1_24 (by decide) rfl rfl (by decide) rfl rfl ?_
        refine x_iload_n hO dX1_moveEntry_77 rfl rfl ?_
        refine x_iald hO (by decide) rfl (by decide) (rfl) (hi) dX1_moveEntry_78 ?_
        refine x_iast hO (by decide) rfl (by decide) (rfl) (hj) dX1_moveEntry_79 ?_
        refine x_aload_n hO dX1_moveEntry_80 rfl rfl ?_
        refine x_getR (T := TX1) (j := 5) hO dX1_moveEntry_81 flX1_27 (by decide) rfl rfl (by decide) rfl rfl ?_
        refine x_iload_n hO dX1_moveEntry_84 rfl rfl ?_
        refine x_aload_n hO dX1_moveEntry_85 rfl rfl ?_
        refine x_getR (T := TX1) (j := 5) hO dX1_moveEntry_86 flX1_27 (by decide) rfl rfl (by decide) rfl rfl ?_
        refine x_iload_n hO dX1_moveEntry_89 rfl rfl ?_
        refine x_iald hO (by decide) rfl (by decide) (rfl) (hi) dX1_moveEntry_90 ?_
        refine x_iast hO (by decide) rfl (by decide) (rfl) (hj) dX1_moveEntry_91 ?_
        refine x_aload_n hO dX1_moveEntry_92 rfl rfl ?_
        refine x_getR (T := TX1) (j := 6) hO dX1_moveEntry_93 flX1_30 (by decide) rfl rfl (by decide) rfl rfl ?_
        refine x_iload_n hO dX1_moveEntry_96 rfl rfl ?_
        refine x_aload_n hO dX1_moveEntry_97 rfl rfl ?_
        refine x_getR (T := TX1) (j := 6) hO dX1_moveEntry_98 flX1_30 (by decide) rfl rfl (by decide) rfl rfl ?_
        refine x_iload_n hO dX1_moveEntry_101 rfl rfl ?_
        refine x_iald hO (by decide) rfl (by decide) (rfl) (hi) dX1_moveEntry_102 ?_
        refine x_iast hO (by decide) rfl (by decide) (rfl) (hj) dX1_moveEntry_103 ?_
        refine x_aload_n hO dX1_moveEntry_104 rfl rfl ?_
        refine x_getR (T := TX1) (j := 0) hO dX1_moveEntry_105 flX1_9 (by decide) rfl rfl (by decide) rfl rfl ?_
        refine x_iload_n hO dX1_moveEntry_108 rfl rfl ?_
        refine x_iconst (v := (-1 : Int32)) hO dX1_moveEntry_109 rfl ?_
        refine x_iast hO (by decide) rfl (by decide) (rfl) (hi) dX1_moveEntry_110 ?_
        refine x_vret hO hR dX1_moveEntry_111 ?_
        refine ⟨cA_ext (fun s hs => ?_) (fun s hs => ?_), ?_, fun k hk => ?_⟩
        · unfold aMv
          rw [if_neg q]
          split
          · rename_i e
            subst e
            refine cA_free ?_
            simp [xset_at]
          · rename_i e
            split
            · rename_i e2
              subst e2
              refine cA_row hs hi (all7 ?_ ?_ ?_ ?_ ?_ ?_ ?_) <;> simp [xset_at, q, e]
            · rename_i e2
              refine cA_row hs hs (all7 ?_ ?_ ?_ ?_ ?_ ?_ ?_) <;> simp [xset_at, e, e2]
        · unfold aMv
          rw [if_neg q, if_neg (by omega), if_neg (by omega), cA_ge hs]
        · funext a
          simp [xset_at]
        · funext a
          have h17 : ¬ k = 17 := by omega
          have h18 : ¬ k = 18 := by omega
          have h19 : ¬ k = 19 := by omega
          have h20 : ¬ k = 20 := by omega
          have h21 : ¬ k = 21 := by omega
          have h22 : ¬ k = 22 := by omega
          have h23 : ¬ k = 23 := by omega
          simp [xset_at, h17, h18, h19, h20, h21, h22, h23]
      · exact absurd c2 (by decide)
/-! ===== Memory.moveUp, moveDown ===== -/
/-- the rows b to b + n - 1 are one slot further, those that have moved: from b + k on -/
def aUp (A : aR) (b n k : Nat) : aR := fun s => if b + k < s ∧ s ≤ b + n then A (s - 1) else if s = b + k ∧ k < n then eR else A s
theorem aUp_0 (A : aR) (b n : Nat) : aUp A b n n = A := by
  funext s
  unfold aUp
  rw [if_neg (by omega), if_neg (by omega)]
theorem aUp_s (A : aR) (b n k : Nat) (hk : k < n) : aMv (aUp A b n (k + 1)) (b + k) (b + k + 1) = aUp A b n k := by
  funext s
  unfold aMv aUp
  rw [if_neg (by omega)]
  by_cases e1 : s = b + k
  · rw [if_pos e1, if_neg (by omega), if_pos ⟨e1, hk⟩]
  · rw [if_neg e1]
    by_cases e2 : s = b + k + 1
    · rw [if_pos e2, if_neg (by omega), if_neg (by omega), if_pos (by omega)]
      congr 1
      omega
    · rw [if_neg e2]
      by_cases e3 : b + k < s ∧ s ≤ b + n
      · rw [if_pos (by omega), if_pos e3]
      · rw [if_neg (by omega), if_neg (by omega), if_neg e3, if_neg (by omega)]
theorem nI_sub1 (k : Nat) : nI (k + 1) - nI 1 = nI k := pk_sub (a := k + 1) (by omega)
theorem k_moveUp (U : xP) (M : xM) {b n : Nat} (h : b + n < 32) : xMetV U mX1_moveUp [.inr 16, .inl (nI b), .inl (nI n)] M (fun M' => mSt M M' (aUp (cA M 16) b n 0) (upd (M 16) 9 (M 16 9 + nI n))) := by
  refine xMetV.of (L := [some (.inr 16), some (.inl (nI b)), some (.inl (nI n)), none]) fX1_moveUp rfl rfl (Nat.le_of_ble_eq_true rfl) (fun G hN hO hR => ?_)
  have hN : G.2.2.2.2.2.2.2.2.2.2.1 = 4 := hN
  have hO : xOK U G RX1 cX1_moveUp 2 := hO
  refine x_iload_n hO dX1_moveUp_0 rfl rfl ?_
  refine x_iload_n hO dX1_moveUp_1 rfl rfl ?_
  refine x_iadd hO dX1_moveUp_2 ?_
  rw [nI_add]
  refine x_istore_n (n := 4) hO dX1_moveUp_3 rfl rfl (by decide) hN ?_
  have loop : ∀ k, k ≤ n → ∀ M1, mSt M M1 (aUp (cA M 16) b n k) (M 16) → XW U G 4 [some (.inr 16), some (.inl (nI b)), some (.inl (nI n)), some (.inl (nI (b + k)))] [] M1 := by
    intro k
    induction k with
    | zero =>
      intro _ M1 h1
      refine x_iload_n hO dX1_moveUp_4 rfl rfl ?_
      refine x_iload_n hO dX1_moveUp_5 rfl rfl ?_
      refine x_icmp_le (tgt := 23) hO dX1_moveUp_6 (by decide) (fun c => ?_) (fun c => ?_)
      · refine x_aload_n hO dX1_moveUp_23 rfl rfl ?_
        refine x_dup hO dX1_moveUp_24 ?_
        refine x_getI (T := TX1) (j := 9) hO dX1_moveUp_25 flX1_40 (by decide) rfl rfl (by decide) rfl rfl ?_
        refine x_iload_n hO dX1_moveUp_28 rfl rfl ?_
        refine x_iadd hO dX1_moveUp_29 ?_
        refine x_put (T := TX1) (j := 9) (ty := .int) hO dX1_moveUp_30 flX1_40 (by decide) rfl rfl (by decide) rfl rfl rfl (by decide +kernel) rfl rfl ?_
        refine x_vret hO hR dX1_moveUp_33 ?_
        have e : M1 16 9 = M 16 9 := by rw [h1.2.1]
        rw [e]
        have h2 := mSt.tr h1 (mSt.num (M := M1) 9 (by decide) (M 16 9 + nI n))
        rw [h1.1, h1.2.1] at h2
        exact h2
      · exact absurd (Int32.le_refl _) c
    | succ k ih =>
      intro hk M1 h1
      refine x_iload_n hO dX1_moveUp_4 rfl rfl ?_
      refine x_iload_n hO dX1_moveUp_5 rfl rfl ?_
      refine x_icmp_le (tgt := 23) hO dX1_moveUp_6 (by decide) (fun c => ?_) (fun c => ?_)
      · exact absurd c (nI_ge (by omega) (by omega))
      · refine x_aload_n hO dX1_moveUp_9 rfl rfl ?_
        refine x_iload_n hO dX1_moveUp_10 rfl rfl ?_
        refine x_iconst (v := nI 1) hO dX1_moveUp_11 rfl ?_
        refine x_isub hO dX1_moveUp_12 ?_
        rw [show b + (k + 1) = b + k + 1 from rfl, nI_sub1]
        refine x_iload_n hO dX1_moveUp_13 rfl rfl ?_
        refine x_callVv hO (k_moveEntry U M1 (i := b + k) (j := b + k + 1) (by omega) (by omega)) dX1_moveUp_14 lkX1_102 fX1_moveEntry vX1_moveEntry (by decide) rfl rfl rfl rfl rfl (by decide) (Nat.le_of_ble_eq_true rfl) (fun M' h2 => ?_)
        have h3 := mSt.tr h1 h2
        rw [h1.1, h1.2.1, aUp_s _ _ _ _ (by omega)] at h3
        refine x_iinc hO dX1_moveUp_17 rfl (by first | exact xdec_n _ | rfl) rfl hN ?_
        refine x_goto (tgt := 4) hO dX1_moveUp_20 (by decide) ?_
        exact ih (by omega) M' h3
  exact loop n (Nat.le_refl _) M (by rw [aUp_0]; exact mSt.rf M)
/-- the rows l - n + 1 to l are one slot lower, the first k of them have moved -/
def aDn (A : aR) (l n k : Nat) : aR := fun s => if l - n ≤ s ∧ s < l - n + k then A (s + 1) else if s = l - n + k ∧ 0 < k then eR else A s
theorem aDn_0 (A : aR) (l n : Nat) : aDn A l n 0 = A := by
  funext s
  unfold aDn
  rw [if_neg (by omega), if_neg (by omega)]
theorem aDn_s (A : aR) (l n k : Nat) : aMv (aDn A l n k) (l - n + k + 1) (l - n + k) = aDn A l n (k + 1) := by
  funext s
  unfold aMv aDn
  rw [if_neg (by omega)]
  by_cases e1 : s = l - n + k + 1
  · rw [if_pos e1, if_neg (by omega), if_pos (by omega)]
  · rw [if_neg e1]
    by_cases e2 : s = l - n + k
    · rw [if_pos e2, if_neg (by omega), if_neg (by omega), if_pos (by omega)]
      congr 1
      omega
    · rw [if_neg e2]
      by_cases e3 : l - n ≤ s ∧ s < l - n + k
      · rw [if_pos e3, if_pos (by omega)]
      · rw [if_neg e3, if_neg (by omega), if_neg (by omega), if_neg (by omega)]
theorem k_moveDown (U : xP) (M : xM) {l n : Nat} (hl : l < 32) (hn : n ≤ l) : xMetV U mX1_moveDown [.inr 16, .inl (nI l), .inl (nI n)] M (fun M' => mSt M M' (aDn (cA M 16) l n n) (upd (M 16) 9 (M 16 9 + nI n))) := by
  refine xMetV.of (L := [some (.inr 16), some (.inl (nI l)), some (.inl (nI n)), none]) fX1_moveDown rfl rfl (Nat.le_of_ble_eq_true rfl) (fun G hN hO hR => ?_)
  have hN : G.2.2.2.2.2.2.2.2.2.2.1 = 4 := hN
  have hO : xOK U G RX1 cX1_moveDown 2 := hO
  refine x_iload_n hO dX1_moveDown_0 rfl rfl ?_
  refine x_iload_n hO dX1_moveDown_1 rfl rfl ?_
  refine x_isub hO dX1_moveDown_2 ?_
  rw [pk_sub hn]
  refine x_istore_n (n := 4) hO dX1_moveDown_3 rfl rfl (by decide) hN ?_
  refine upd_ind (P := fun k _ => ∀ M1, mSt M M1 (aDn (cA M 16) l n k) (M 16) → XW U G 4 [some (.inr 16), some (.inl (nI l)), some (.inl (nI n)), some (.inl (nI (l - n + k)))] [] M1) n ?_ ?_ n 0 (by omega) M (by rw [aDn_0]; exact mSt.rf M)
  · intro M1 h1
    refine x_iload_n hO dX1_moveDown_4 rfl rfl ?_
    refine x_iload_n hO dX1_moveDown_5 rfl rfl ?_
    refine x_icmp_ge (tgt := 23) hO dX1_moveDown_6 (by decide) (fun c => ?_) (fun c => ?_)
    · refine x_aload_n hO dX1_moveDown_23 rfl rfl ?_
      refine x_dup hO dX1_moveDown_24 ?_
      refine x_getI (T := TX1) (j := 9) hO dX1_moveDown_25 flX1_40 (by decide) rfl rfl (by decide) rfl rfl ?_
      refine x_iload_n hO dX1_moveDown_28 rfl rfl ?_
      refine x_iadd hO dX1_moveDown_29 ?_
      refine x_put (T := TX1) (j := 9) (ty := .int) hO dX1_moveDown_30 flX1_40 (by decide) rfl rfl (by decide) rfl rfl rfl (by decide +kernel) rfl rfl ?_
      refine x_vret hO hR dX1_moveDown_33 ?_
      have e : M1 16 9 = M 16 9 := by rw [h1.2.1]
      rw [e]
      have h2 := mSt.tr h1 (mSt.num (M := M1) 9 (by decide) (M 16 9 + nI n))
      rw [h1.1, h1.2.1] at h2
      exact h2
    · exact absurd (nI_le (by omega) (by omega)) c
  · intro k d hd ih M1 h1
    refine x_iload_n hO dX1_moveDown_4 rfl rfl ?_
    refine x_iload_n hO dX1_moveDown_5 rfl rfl ?_
    refine x_icmp_ge (tgt := 23) hO dX1_moveDown_6 (by decide) (fun c => ?_) (fun c => ?_)
    · exact absurd c (nI_ge (by omega) (by omega))
    · refine x_aload_n hO dX1_moveDown_9 rfl rfl ?_
      refine x_iload_n hO dX1_moveDown_10 rfl rfl ?_
      refine x_iconst (v := nI 1) hO dX1_moveDown_11 rfl ?_
      refine x_iadd hO dX1_moveDown_12 ?_
      rw [nI_add]
      refine x_iload_n hO dX1_moveDown_13 rfl rfl ?_
      refine x_callVv hO (k_moveEntry U M1 (i := l - n + k + 1) (j := l - n + k) (by omega) (by omega)) dX1_moveDown_14 lkX1_102 fX1_moveEntry vX1_moveEntry (by decide) rfl rfl rfl rfl rfl (by decide) (Nat.le_of_ble_eq_true rfl) (fun M' h2 => ?_)
      have h3 := mSt.tr h1 h2
      rw [h1.1, h1.2.1, aDn_s] at h3
      refine x_iinc hO dX1_moveDown_17 rfl (by first | exact xinc_n _ | rfl) rfl hN ?_
      refine x_goto (tgt := 4) hO dX1_moveDown_20 (by decide) ?_
      exact ih M' h3
/-! ===== Memory.fill ===== -/
def rowOf (r p m v k a : Int32) : Nat → Int32 := fun w => match w with
  | 0 => r
  | 1 => p
  | 2 => m
  | 3 => v &&& m
  | 4 => k
  | 5 => a
  | _ => 0
theorem k_fill (U : xP) (M : xM) {j : Nat} (hj : j < 32) (r p m v k a : Int32) (hr : r ≠ -1) : xMetV U mX1_fill [.inr 16, .inl (nI j), .inl r, .inl p, .inl m, .inl v, .inl k, .inl a] M (fun M' => mSt M M' (fun s => if s = j then rowOf r p m v k a else cA M 16 s) (M 16)) := by
  refine xMetV.of (L := [some (.inr 16), some (.inl (nI j)), some (.inl r), some (.inl p), some (.inl m), some (.inl v), some (.inl k), some (.inl a)]) fX1_fill rfl rfl (Nat.le_of_ble_eq_true rfl) (fun G hN hO hR => ?_)
  have hN : G.2.2.2.2.2.2.2.2.2.2.1 = 8 := hN
  have hO : xOK U G RX1 cX1_fill 1 := hO
  refine x_iload_n hO dX1_fill_0 rfl rfl ?_
  refine x_callSN1 hO (k_isSlot U M (nI j)) dX1_fill_1 lkX1_49 fX3_isSlot sX3_isSlot rfl rfl (by decide) (Nat.le_of_ble_eq_true rfl) ?_
  rw [ixB_n hj (by decide)]
  refine x_if_ne (tgt := 8) hO dX1_fill_4 (by decide) (fun c => ?_) (fun c => ?_)
  · refine x_aload_n hO dX1_fill_8 rfl rfl ?_
    refine x_getR (T := TX1) (j := 0) hO dX1_fill_9 flX1_9 (by decide) rfl rfl (by decide) rfl rfl ?_
    refine x_iload_n hO dX1_fill_12 rfl rfl ?_
    refine x_iload_n hO dX1_fill_13 rfl rfl ?_
    refine x_iast hO (by decide) rfl (by decide) (rfl) (hj) dX1_fill_14 ?_
    refine x_aload_n hO dX1_fill_15 rfl rfl ?_
    refine x_getR (T := TX1) (j := 1) hO dX1_fill_16 flX1_15 (by decide) rfl rfl (by decide) rfl rfl ?_
    refine x_iload_n hO dX1_fill_19 rfl rfl ?_
    refine x_iload_n hO dX1_fill_20 rfl rfl ?_
    refine x_iast hO (by decide) rfl (by decide) (rfl) (hj) dX1_fill_21 ?_
    refine x_aload_n hO dX1_fill_22 rfl rfl ?_
    refine x_getR (T := TX1) (j := 2) hO dX1_fill_23 flX1_18 (by decide) rfl rfl (by decide) rfl rfl ?_
    refine x_iload_n hO dX1_fill_26 rfl rfl ?_
    refine x_iload hO dX1_fill_27 rfl ?_
    refine x_iast hO (by decide) rfl (by decide) (rfl) (hj) dX1_fill_29 ?_
    refine x_aload_n hO dX1_fill_30 rfl rfl ?_
    refine x_getR (T := TX1) (j := 3) hO dX1_fill_31 flX1_21 (by decide) rfl rfl (by decide) rfl rfl ?_
    refine x_iload_n hO dX1_fill_34 rfl rfl ?_
    refine x_iload hO dX1_fill_35 rfl ?_
    refine x_iload hO dX1_fill_37 rfl ?_
    refine x_iand hO dX1_fill_39 ?_
    refine x_iast hO (by decide) rfl (by decide) (rfl) (hj) dX1_fill_40 ?_
    refine x_aload_n hO dX1_fill_41 rfl rfl ?_
    refine x_getR (T := TX1) (j := 4) hO dX1_fill_42 flX1_24 (by decide) rfl rfl (by decide) rfl rfl ?_
    refine x_iload_n hO dX1_fill_45 rfl rfl ?_
    refine x_iload hO dX1_fill_46 rfl ?_
    refine x_iast hO (by decide) rfl (by decide) (rfl) (hj) dX1_fill_48 ?_
    refine x_aload_n hO dX1_fill_49 rfl rfl ?_
    refine x_getR (T := TX1) (j := 5) hO dX1_fill_50 flX1_27 (by decide) rfl rfl (by decide) rfl rfl ?_
    refine x_iload_n hO dX1_fill_53 rfl rfl ?_
    refine x_iload hO dX1_fill_54 rfl ?_
    refine x_iast hO (by decide) rfl (by decide) (rfl) (hj) dX1_fill_56 ?_
    refine x_aload_n hO dX1_fill_57 rfl rfl ?_
    refine x_getR (T := TX1) (j := 6) hO dX1_fill_58 flX1_30 (by decide) rfl rfl (by decide) rfl rfl ?_
    refine x_iload_n hO dX1_fill_61 rfl rfl ?_
    refine x_iconst (v := nI 0) hO dX1_fill_62 rfl ?_
    refine x_iast hO (by decide) rfl (by decide) (rfl) (hj) dX1_fill_63 ?_
    refine x_vret hO hR dX1_fill_64 ?_
    refine ⟨cA_ext (fun s hs => ?_) (fun s hs => ?_), ?_, fun k hk => ?_⟩
    · split
      · rename_i e
        subst e
        funext w
        have ho : (r == -1) = false := by simpa using hr
        unfold cA occ
        simp only [xset_at]
        simp only [hs, ho]
        match w with
        | 0 => simp [rowOf, hr]
        | 1 => simp [rowOf, hr]
        | 2 => simp [rowOf, hr]
        | 3 => simp [rowOf, hr]
        | 4 => simp [rowOf, hr]
        | 5 => simp [rowOf, hr]
        | w + 6 =>
          show _ = (0 : Int32)
          simp [hr]
          rw [if_neg (by omega)]
          split <;> rfl
      · rename_i e
        refine cA_row hs hs (all7 ?_ ?_ ?_ ?_ ?_ ?_ ?_) <;> simp [xset_at, e]
    · rw [if_neg (by omega), cA_ge hs]
    · funext a
      simp [xset_at]
    · funext a
      have h17 : ¬ k = 17 := by omega
      have h18 : ¬ k = 18 := by omega
      have h19 : ¬ k = 19 := by omega
      have h20 : ¬ k = 20 := by omega
      have h21 : ¬ k = 21 := by omega
      have h22 : ¬ k = 22 := by omega
      have h23 : ¬ k = 23 := by omega
      simp [xset_at, h17, h18, h19, h20, h21, h22, h23]
  · exact absurd c (by decide)
/-! ===== Memory.dropEntriesOf ===== -/
def aDrop (A : aR) (x : Int32) : aR := fun s => if A s 0 = x then eR else A s
def dropM (M : xM) (x : Int32) (i : Nat) : xM := fun k s => if k = 17 ∧ s < i ∧ M 17 s = x then -1 else M k s
theorem k_dropEntriesOf (U : xP) (M : xM) (x : Int32) : xMetV U mX1_dropEntriesOf [.inr 16, .inl x] M (fun M' => mSt M M' (aDrop (cA M 16) x) (M 16)) := by
  refine xMetV.of (L := [some (.inr 16), some (.inl x), none]) fX1_dropEntriesOf rfl rfl (Nat.le_of_ble_eq_true rfl) (fun G hN hO hR => ?_)
  have hN : G.2.2.2.2.2.2.2.2.2.2.1 = 3 := hN
  have hO : xOK U G RX1 cX1_dropEntriesOf 0 := hO
  refine x_iconst (v := nI 0) hO dX1_dropEntriesOf_0 rfl ?_
  refine x_istore_n (n := 3) hO dX1_dropEntriesOf_1 rfl rfl (by decide) hN ?_
  have e0 : dropM M x 0 = M := by funext k s; simp [dropM]
  have h0 := upd_ind (P := fun i _ => XW U G 2 [some (.inr 16), some (.inl x), some (.inl (nI i))] [] (dropM M x i)) 32 ?_ ?_ 32 0 rfl
  · rw [e0] at h0
    exact h0
  · refine x_iload_n hO dX1_dropEntriesOf_2 rfl rfl ?_
    refine x_bipush (v := nI 32) hO dX1_dropEntriesOf_3 rfl ?_
    refine x_icmp_ge (tgt := 31) hO dX1_dropEntriesOf_5 (by decide) (fun c => ?_) (fun c => ?_)
    · refine x_vret hO hR dX1_dropEntriesOf_31 ?_
      refine ⟨cA_ext (fun s hs => ?_) (fun s hs => ?_), ?_, fun k hk => ?_⟩
      · unfold aDrop
        by_cases e : M 17 s = x
        · have e1 : cA (dropM M x 32) 16 s = eR := cA_free (by simp [dropM, hs, e])
          rw [e1]
          split
          · rfl
          · rename_i q
            by_cases e2 : M 17 s = -1
            · rw [cA_free e2]
            · rw [e] at e2
              exact absurd (by unfold cA; simp [occ, hs, e2, e]) q
        · have e1 : cA (dropM M x 32) 16 s = cA M 16 s := cA_row hs hs (fun w hw => by simp [dropM, e])
          rw [e1]
          split
          · rename_i q
            by_cases e2 : M 17 s = -1
            · rw [cA_free e2]
            · exact absurd (by rw [← q]; unfold cA; simp [occ, hs, e2]) e
          · rfl
      · unfold aDrop
        rw [cA_ge hs]
        split <;> rfl
      · funext a
        simp [dropM]
      · funext a
        have h17 : ¬ k = 17 := by omega
        simp [dropM, h17]
    · exact absurd (Int32.le_refl _) c
  · intro i d hd ih
    have hi : i < 32 := by omega
    have er : dropM M x i 17 i = M 17 i := by simp [dropM]
    refine x_iload_n hO dX1_dropEntriesOf_2 rfl rfl ?_
    refine x_bipush (v := nI 32) hO dX1_dropEntriesOf_3 rfl ?_
    refine x_icmp_ge (tgt := 31) hO dX1_dropEntriesOf_5 (by decide) (fun c => ?_) (fun c => ?_)
    · exact absurd c (nI_ge hi (by decide))
    · refine x_aload_n hO dX1_dropEntriesOf_8 rfl rfl ?_
      refine x_getR (T := TX1) (j := 0) hO dX1_dropEntriesOf_9 flX1_9 (by decide) rfl rfl (by decide) rfl rfl ?_
      refine x_iload_n hO dX1_dropEntriesOf_12 rfl rfl ?_
      refine x_iald hO (by decide) rfl (by decide) (rfl) (hi) dX1_dropEntriesOf_13 ?_
      refine x_iload_n hO dX1_dropEntriesOf_14 rfl rfl ?_
      rw [er]
      refine x_icmp_ne (tgt := 25) hO dX1_dropEntriesOf_15 (by decide) (fun c2 => ?_) (fun c2 => ?_)
      · refine x_iinc hO dX1_dropEntriesOf_25 rfl (by first | exact xinc_n _ | rfl) rfl hN ?_
        refine x_goto (tgt := 2) hO dX1_dropEntriesOf_28 (by decide) ?_
        have e : dropM M x (i + 1) = dropM M x i := by
          funext k s
          unfold dropM
          by_cases q : s = i
          · subst q
            rw [if_neg (fun z => c2 z.2.2), if_neg (fun z => by omega)]
          · have : s < i + 1 ↔ s < i := by omega
            simp only [this]
        rw [e] at ih
        exact ih
      · refine x_aload_n hO dX1_dropEntriesOf_18 rfl rfl ?_
        refine x_getR (T := TX1) (j := 0) hO dX1_dropEntriesOf_19 flX1_9 (by decide) rfl rfl (by decide) rfl rfl ?_
        refine x_iload_n hO dX1_dropEntriesOf_22 rfl rfl ?_
        refine x_iconst (v := (-1 : Int32)) hO dX1_dropEntriesOf_23 rfl ?_
        refine x_iast hO (by decide) rfl (by decide) (rfl) (hi) dX1_dropEntriesOf_24 ?_
        refine x_iinc hO dX1_dropEntriesOf_25 rfl (by first | exact xinc_n _ | rfl) rfl hN ?_
        refine x_goto (tgt := 2) hO dX1_dropEntriesOf_28 (by decide) ?_
        have e : dropM M x (i + 1) = xset (dropM M x i) 17 i (-1) := by
          funext k s
          rw [xset_at]
          unfold dropM
          by_cases q : k = 17
          · subst q
            by_cases q2 : s = i
            · subst q2
              simp [c2]
            · have : s < i + 1 ↔ s < i := by omega
              simp [this, q2]
          · simp [q]
        rw [e] at ih
        exact ih
end
section
/-! ===== Memory.openSlot, addSingle ===== -/
theorem nC_full {P : Nat → Bool} : ∀ {n : Nat}, (∀ i, i < n → P i = true) → nC P n = n
  | 0, _ => rfl
  | n + 1, h => by rw [nC_t (h n (by omega)), nC_full (n := n) (fun i hi => h i (by omega))]
/-- there is room -/
theorem aFree_ex {A : aR} (h : aCnt A < 32) : ∃ s, s < 32 ∧ aoc A s = false := by
  rcases Classical.em (∃ s, s < 32 ∧ aoc A s = false) with q | q
  · exact q
  · have e : aCnt A = 32 := nC_full (fun i hi => by
      cases e : aoc A i with
      | true => rfl
      | false => exact absurd ⟨i, hi, e⟩ q)
    omega
theorem oM_free {A : aR} (h : aCnt A < 32) {p b : Nat} (hp : p ≤ 32) (hb : b ≤ p) : ¬ (aMu A b = 33 ∧ aMd A p = 33) := by
  obtain ⟨s, hs, hf⟩ := aFree_ex h
  have h1 := aMu_33 A b
  have h2 := aMd_33 A hp
  rintro ⟨e1, e2⟩
  rcases Nat.lt_or_ge s b with q | q
  · unfold aMd at e2
    split at e2
    · rename_i z
      have := nL_no (P := pFr A) (n := p) (j := s) (by omega) (by omega)
      simp [pFr, hf] at this
    · omega
  · unfold aMu at e1
    have a := nF_le (P := pFr A) (32 - b) b
    split at e1
    · omega
    · have := nF_no (P := pFr A) (32 - b) b s q (by omega)
      simp [pFr, hf] at this
/-- the slot for a new entry of the rank r, by the placing rule P; the rows when room has been made -/
def oS (A : aR) (P r : Int32) : Nat := if aP A r < aB A r then aPl P (aP A r) (aB A r) else if aMu A (aB A r) ≤ aMd A (aP A r) then aB A r else aP A r - 1
def oA (A : aR) (r : Int32) : aR := if aP A r < aB A r then A else if aMu A (aB A r) ≤ aMd A (aP A r) then aUp A (aB A r) (aMu A (aB A r)) 0 else aDn A (aP A r - 1) (aMd A (aP A r)) (aMd A (aP A r))
theorem aPl_lt {P : Int32} {p b : Nat} (hb : b ≤ 32) (h : p < b) : p ≤ aPl P p b ∧ aPl P p b < b := by
  unfold aPl
  split
  · omega
  · split <;> omega
theorem oS_lt {A : aR} (P r : Int32) (h : aCnt A < 32) : oS A P r < 32 := by
  unfold oS
  have h1 := aP_le A r
  have h2 := aB_le A r
  split
  · rename_i q
    have := aPl_lt (P := P) h2 q
    omega
  · rename_i q
    have h3 := oM_free h h1 (Nat.not_lt.mp q)
    split
    · rename_i z
      have := (aMu_le (A := A) (f := aB A r) (by have := aMd_33 A h1; omega)).1
      omega
    · rename_i z
      have h4 := aMu_33 A (aB A r)
      have := (aMd_le (A := A) h1 (by omega)).1
      omega
theorem k_openSlot (U : xP) (M : xM) (x : Int32) (h : aCnt (cA M 16) < 32) : xMetI U mX1_openSlot [.inr 16, .inl x] M (fun r M' => r = nI (oS (cA M 16) (M 16 7) x) ∧ mSt M M' (oA (cA M 16) x) (upd (M 16) 9 (M 16 9 + nI (oM (cA M 16) x)))) := by
  refine xMetI.of (ty := .int) (L := [some (.inr 16), some (.inl x), none, none, none, none]) fX1_openSlot rfl rfl (Nat.le_of_ble_eq_true rfl) (fun G hN hO hR => ?_)
  have hN : G.2.2.2.2.2.2.2.2.2.2.1 = 6 := hN
  have hO : xOK U G RX1 cX1_openSlot 3 := hO
  have h1 := aP_le (cA M 16) x
  have h2 := aB_le (cA M 16) x
  unfold oS oA oM at hR
  refine x_aload_n hO dX1_openSlot_0 rfl rfl ?_
  refine x_iload_n hO dX1_openSlot_1 rfl rfl ?_
  refine x_callV1 hO (k_lastSlotUpTo U M x) dX1_openSlot_2 lkX1_75 fX1_lastSlotUpTo vX1_lastSlotUpTo (by decide) rfl rfl rfl rfl rfl (by decide) (Nat.le_of_ble_eq_true rfl) ?_
  refine x_istore_n (n := 6) hO dX1_openSlot_5 rfl rfl (by decide) hN ?_
  refine x_aload_n hO dX1_openSlot_6 rfl rfl ?_
  refine x_iload_n hO dX1_openSlot_7 rfl rfl ?_
  refine x_callV1 hO (k_firstSlotBeyond U M x) dX1_openSlot_8 lkX1_78 fX1_firstSlotBeyond vX1_firstSlotBeyond (by decide) rfl rfl rfl rfl rfl (by decide) (Nat.le_of_ble_eq_true rfl) ?_
  refine x_istore_n (n := 6) hO dX1_openSlot_11 rfl rfl (by decide) hN ?_
  refine x_iload_n hO dX1_openSlot_12 rfl rfl ?_
  refine x_iload_n hO dX1_openSlot_13 rfl rfl ?_
  refine x_isub hO dX1_openSlot_14 ?_
  refine x_iconst (v := nI 1) hO dX1_openSlot_15 rfl ?_
  change XW U G _ _ [.inl (nI 1), .inl (nI (aB (cA M 16) x) - xm (aP (cA M 16) x))] M
  refine x_icmp_le (tgt := 26) hO dX1_openSlot_16 (by decide) (fun c => ?_) (fun c => ?_)
  · have q : aB (cA M 16) x ≤ aP (cA M 16) x := (xm_gap _ (by omega) _ (by omega)).mp c
    simp only [if_neg (show ¬ aP (cA M 16) x < aB (cA M 16) x by omega)] at hR
    have h3 := oM_free h h1 q
    have u3 := aMu_33 (cA M 16) (aB (cA M 16) x)
    have d3 := aMd_33 (cA M 16) h1
    refine x_aload_n hO dX1_openSlot_26 rfl rfl ?_
    refine x_iload_n hO dX1_openSlot_27 rfl rfl ?_
    refine x_callV1 hO (k_movesUpFrom U M h2) dX1_openSlot_28 lkX1_84 fX1_movesUpFrom vX1_movesUpFrom (by decide) rfl rfl rfl rfl rfl (by decide) (Nat.le_of_ble_eq_true rfl) ?_
    refine x_istore (n := 6) hO dX1_openSlot_31 rfl (by decide) hN ?_
    refine x_aload_n hO dX1_openSlot_33 rfl rfl ?_
    refine x_iload_n hO dX1_openSlot_34 rfl rfl ?_
    refine x_callV1 hO (k_movesDownFrom U M h1) dX1_openSlot_35 lkX1_87 fX1_movesDownFrom vX1_movesDownFrom (by decide) rfl rfl rfl rfl rfl (by decide) (Nat.le_of_ble_eq_true rfl) ?_
    refine x_istore (n := 6) hO dX1_openSlot_38 rfl (by decide) hN ?_
    refine x_iload hO dX1_openSlot_40 rfl ?_
    refine x_bipush (v := nI 33) hO dX1_openSlot_42 rfl ?_
    have fin : XW U G 56 [some (.inr 16), some (.inl x), some (.inl (xm (aP (cA M 16) x))), some (.inl (nI (aB (cA M 16) x))), some (.inl (nI (aMu (cA M 16) (aB (cA M 16) x)))), some (.inl (nI (aMd (cA M 16) (aP (cA M 16) x))))] [] M := by
      refine x_iload hO dX1_openSlot_56 rfl ?_
      refine x_iload hO dX1_openSlot_58 rfl ?_
      refine x_icmp_gt (tgt := 72) hO dX1_openSlot_60 (by decide) (fun c2 => ?_) (fun c2 => ?_)
      · have q2 : ¬ aMu (cA M 16) (aB (cA M 16) x) ≤ aMd (cA M 16) (aP (cA M 16) x) := by have := (nI_ltI (by omega) (by omega)).mp c2; omega
        simp only [if_neg q2] at hR
        obtain ⟨l, hl⟩ : ∃ l, aP (cA M 16) x = l + 1 := ⟨aP (cA M 16) x - 1, by have := (aMd_le (A := cA M 16) h1 (by omega)).1; omega⟩
        have hd := (aMd_le (A := cA M 16) h1 (by omega)).1
        rw [hl] at hR hd ⊢
        rw [xm_s]
        simp only [Nat.add_sub_cancel] at hR
        refine x_aload_n hO dX1_openSlot_72 rfl rfl ?_
        refine x_iload_n hO dX1_openSlot_73 rfl rfl ?_
        refine x_iload hO dX1_openSlot_74 rfl ?_
        refine x_callVv hO (k_moveDown U M (l := l) (n := aMd (cA M 16) (l + 1)) (by omega) (by omega)) dX1_openSlot_76 lkX1_94 fX1_moveDown vX1_moveDown (by decide) rfl rfl rfl rfl rfl (by decide) (Nat.le_of_ble_eq_true rfl) (fun M' h5 => ?_)
        refine x_iload_n hO dX1_openSlot_79 rfl rfl ?_
        refine x_iret hO hR dX1_openSlot_80 rfl ?_
        refine ⟨rfl, ?_⟩
        rw [Nat.min_eq_right (by rw [hl] at q2; omega)]
        exact h5
      · have q2 : aMu (cA M 16) (aB (cA M 16) x) ≤ aMd (cA M 16) (aP (cA M 16) x) := Nat.not_lt.mp (fun z => c2 ((nI_ltI (by omega) (by omega)).mpr z))
        simp only [if_pos q2] at hR
        have hu := (aMu_le (A := cA M 16) (f := aB (cA M 16) x) (by omega)).1
        refine x_aload_n hO dX1_openSlot_63 rfl rfl ?_
        refine x_iload_n hO dX1_openSlot_64 rfl rfl ?_
        refine x_iload hO dX1_openSlot_65 rfl ?_
        refine x_callVv hO (k_moveUp U M (b := aB (cA M 16) x) (n := aMu (cA M 16) (aB (cA M 16) x)) (by omega)) dX1_openSlot_67 lkX1_90 fX1_moveUp vX1_moveUp (by decide) rfl rfl rfl rfl rfl (by decide) (Nat.le_of_ble_eq_true rfl) (fun M' h5 => ?_)
        refine x_iload_n hO dX1_openSlot_70 rfl rfl ?_
        refine x_iret hO hR dX1_openSlot_71 rfl ?_
        refine ⟨rfl, ?_⟩
        rw [Nat.min_eq_left q2]
        exact h5
    refine x_icmp_ne (tgt := 56) hO dX1_openSlot_44 (by decide) (fun c1 => ?_) (fun c1 => ?_)
    · exact fin
    · refine x_iload hO dX1_openSlot_47 rfl ?_
      refine x_bipush (v := nI 33) hO dX1_openSlot_49 rfl ?_
      refine x_icmp_ne (tgt := 56) hO dX1_openSlot_51 (by decide) (fun c2 => ?_) (fun c2 => ?_)
      · exact fin
      · have e1 := (nI_eq (by omega) (by decide)).mp c1
        have e2 := (nI_eq (by omega) (by decide)).mp c2
        omega
  · have q : aP (cA M 16) x < aB (cA M 16) x := by
      rcases Nat.lt_or_ge (aP (cA M 16) x) (aB (cA M 16) x) with q | q
      · exact q
      · exact absurd ((xm_gap _ (by omega) _ (by omega)).mpr q) c
    simp only [if_pos q] at hR
    refine x_aload_n hO dX1_openSlot_19 rfl rfl ?_
    refine x_iload_n hO dX1_openSlot_20 rfl rfl ?_
    refine x_iload_n hO dX1_openSlot_21 rfl rfl ?_
    refine x_callV1 hO (k_placeBetween U M h2 q) dX1_openSlot_22 lkX1_81 fX1_placeBetween vX1_placeBetween (by decide) rfl rfl rfl rfl rfl (by decide) (Nat.le_of_ble_eq_true rfl) ?_
    refine x_iret hO hR dX1_openSlot_25 rfl ?_
    refine ⟨rfl, ?_⟩
    have e : upd (M 16) 9 (M 16 9 + nI 0) = M 16 := by
      funext j
      unfold upd
      split
      · rename_i z
        rw [z]
        exact Int32.add_zero _
      · rfl
    rw [e]
    exact mSt.rf M
/-- the rows with a new one of the rank r -/
def aAdd (A : aR) (P r : Int32) (row : Nat → Int32) : aR := fun s => if s = oS A P r then row else oA A r s
theorem k_addSingle (U : xP) (M : xM) (v m k a : Int32) (h : aCnt (cA M 16) < 32) (hr : M 16 8 ≠ -1) : xMetI U mX1_addSingle [.inr 16, .inl v, .inl m, .inl k, .inl a] M (fun r M' => r = M 16 8 ∧ mSt M M' (aAdd (cA M 16) (M 16 7) k (rowOf (M 16 8) 0 m v k a)) (upd (upd (M 16) 8 (M 16 8 + nI 1)) 9 (M 16 9 + nI (oM (cA M 16) k)))) := by
  refine xMetI.of (ty := .int) (L := [some (.inr 16), some (.inl v), some (.inl m), some (.inl k), some (.inl a), none]) fX1_addSingle rfl rfl (Nat.le_of_ble_eq_true rfl) (fun G hN hO hR => ?_)
  have hN : G.2.2.2.2.2.2.2.2.2.2.1 = 6 := hN
  have hO : xOK U G RX1 cX1_addSingle 4 := hO
  refine x_aload_n hO dX1_addSingle_0 rfl rfl ?_
  refine x_getI (T := TX1) (j := 8) hO dX1_addSingle_1 flX1_37 (by decide) rfl rfl (by decide) rfl rfl ?_
  refine x_istore (n := 6) hO dX1_addSingle_4 rfl (by decide) hN ?_
  refine x_aload_n hO dX1_addSingle_6 rfl rfl ?_
  refine x_dup hO dX1_addSingle_7 ?_
  refine x_getI (T := TX1) (j := 8) hO dX1_addSingle_8 flX1_37 (by decide) rfl rfl (by decide) rfl rfl ?_
  refine x_iconst (v := nI 1) hO dX1_addSingle_11 rfl ?_
  refine x_iadd hO dX1_addSingle_12 ?_
  refine x_put (T := TX1) (j := 8) (ty := .int) hO dX1_addSingle_13 flX1_37 (by decide) rfl rfl (by decide) rfl rfl rfl (by decide +kernel) rfl rfl ?_
  refine x_aload_n hO dX1_addSingle_16 rfl rfl ?_
  refine x_aload_n hO dX1_addSingle_17 rfl rfl ?_
  refine x_iload_n hO dX1_addSingle_18 rfl rfl ?_
  have h1 := mSt.num (M := M) 8 (by decide) (M 16 8 + nI 1)
  generalize xset M 16 8 (M 16 8 + nI 1) = M1 at h1 ⊢
  have e9 : M1 16 9 = M 16 9 := by rw [h1.2.1]; rfl
  have e7 : M1 16 7 = M 16 7 := by rw [h1.2.1]; rfl
  refine x_callV hO (k_openSlot U M1 k (by rw [h1.1]; exact h)) dX1_addSingle_19 lkX1_64 fX1_openSlot vX1_openSlot (by decide) rfl rfl rfl rfl rfl (by decide) (Nat.le_of_ble_eq_true rfl) (fun r M' h2 => ?_)
  obtain ⟨rfl, h2⟩ := h2
  have h3 := mSt.tr h1 h2
  rw [h1.1, e7, e9, h1.2.1] at *
  refine x_iload hO dX1_addSingle_22 rfl ?_
  refine x_iconst (v := nI 0) hO dX1_addSingle_24 rfl ?_
  refine x_iload_n hO dX1_addSingle_25 rfl rfl ?_
  refine x_iload_n hO dX1_addSingle_26 rfl rfl ?_
  refine x_iload_n hO dX1_addSingle_27 rfl rfl ?_
  refine x_iload hO dX1_addSingle_28 rfl ?_
  refine x_callVv hO (k_fill U M' (j := oS (cA M 16) (M 16 7) k) (oS_lt _ _ h) (M 16 8) (nI 0) m v k a hr) dX1_addSingle_30 lkX1_67 fX1_fill vX1_fill (by decide) rfl rfl rfl rfl rfl (by decide) (Nat.le_of_ble_eq_true rfl) (fun M' h4 => ?_)
  refine x_iload hO dX1_addSingle_33 rfl ?_
  refine x_iret hO hR dX1_addSingle_35 rfl ?_
  refine ⟨rfl, ?_⟩
  have h5 := mSt.tr h3 h4
  rw [h3.1, h3.2.1] at h5
  exact h5
/-! ===== the small checks of TernaryMatcher ===== -/
theorem k_isBank (U : xP) (M : xM) (x : Int32) : xMetI U mX3_isBank [.inl x] M (fun r M' => r = bI (ixB x 4) ∧ M' = M) := by
  refine xMetI.of (ty := .boolean) (L := [some (.inl x)]) fX3_isBank rfl rfl (Nat.le_of_ble_eq_true rfl) (fun G hN hO hR => ?_)
  have hN : G.2.2.2.2.2.2.2.2.2.2.1 = 1 := hN
  have hO : xOK U G RX3 cX3_isBank 0 := hO
  refine x_iload_n hO dX3_isBank_0 rfl rfl ?_
  refine x_if_lt (tgt := 13) hO dX3_isBank_1 (by decide) (fun c => ?_) (fun c => ?_)
  · refine x_iconst (v := nI 0) hO dX3_isBank_13 rfl ?_
    refine x_iret hO hR dX3_isBank_14 rfl ?_
    exact ⟨bI_f (ixB_lo c), rfl⟩
  · refine x_iload_n hO dX3_isBank_4 rfl rfl ?_
    refine x_iconst (v := nI 4) hO dX3_isBank_5 rfl ?_
    refine x_icmp_ge (tgt := 13) hO dX3_isBank_6 (by decide) (fun c2 => ?_) (fun c2 => ?_)
    · refine x_iconst (v := nI 0) hO dX3_isBank_13 rfl ?_
      refine x_iret hO hR dX3_isBank_14 rfl ?_
      exact ⟨bI_f (ixB_hi c2), rfl⟩
    · refine x_iconst (v := nI 1) hO dX3_isBank_9 rfl ?_
      refine x_goto (tgt := 14) hO dX3_isBank_10 (by decide) ?_
      refine x_iret hO hR dX3_isBank_14 rfl ?_
      exact ⟨bI_t (ixB_in c c2), rfl⟩
theorem k_isKey (U : xP) (M : xM) (x : Int32) : xMetI U mX3_isKey [.inl x] M (fun r M' => r = bI (ixB x 256) ∧ M' = M) := by
  refine xMetI.of (ty := .boolean) (L := [some (.inl x)]) fX3_isKey rfl rfl (Nat.le_of_ble_eq_true rfl) (fun G hN hO hR => ?_)
  have hN : G.2.2.2.2.2.2.2.2.2.2.1 = 1 := hN
  have hO : xOK U G RX3 cX3_isKey 0 := hO
  refine x_iload_n hO dX3_isKey_0 rfl rfl ?_
  refine x_if_lt (tgt := 15) hO dX3_isKey_1 (by decide) (fun c => ?_) (fun c => ?_)
  · refine x_iconst (v := nI 0) hO dX3_isKey_15 rfl ?_
    refine x_iret hO hR dX3_isKey_16 rfl ?_
    exact ⟨bI_f (ixB_lo c), rfl⟩
  · refine x_iload_n hO dX3_isKey_4 rfl rfl ?_
    refine x_sipush (v := nI 256) hO dX3_isKey_5 rfl ?_
    refine x_icmp_ge (tgt := 15) hO dX3_isKey_8 (by decide) (fun c2 => ?_) (fun c2 => ?_)
    · refine x_iconst (v := nI 0) hO dX3_isKey_15 rfl ?_
      refine x_iret hO hR dX3_isKey_16 rfl ?_
      exact ⟨bI_f (ixB_hi c2), rfl⟩
    · refine x_iconst (v := nI 1) hO dX3_isKey_11 rfl ?_
      refine x_goto (tgt := 16) hO dX3_isKey_12 (by decide) ?_
      refine x_iret hO hR dX3_isKey_16 rfl ?_
      exact ⟨bI_t (ixB_in c c2), rfl⟩
theorem k_isRank (U : xP) (M : xM) (x : Int32) : xMetI U mX3_isRank [.inl x] M (fun r M' => r = bI (ixB x 100) ∧ M' = M) := by
  refine xMetI.of (ty := .boolean) (L := [some (.inl x)]) fX3_isRank rfl rfl (Nat.le_of_ble_eq_true rfl) (fun G hN hO hR => ?_)
  have hN : G.2.2.2.2.2.2.2.2.2.2.1 = 1 := hN
  have hO : xOK U G RX3 cX3_isRank 0 := hO
  refine x_iload_n hO dX3_isRank_0 rfl rfl ?_
  refine x_if_lt (tgt := 14) hO dX3_isRank_1 (by decide) (fun c => ?_) (fun c => ?_)
  · refine x_iconst (v := nI 0) hO dX3_isRank_14 rfl ?_
    refine x_iret hO hR dX3_isRank_15 rfl ?_
    exact ⟨bI_f (ixB_lo c), rfl⟩
  · refine x_iload_n hO dX3_isRank_4 rfl rfl ?_
    refine x_bipush (v := nI 100) hO dX3_isRank_5 rfl ?_
    refine x_icmp_ge (tgt := 14) hO dX3_isRank_7 (by decide) (fun c2 => ?_) (fun c2 => ?_)
    · refine x_iconst (v := nI 0) hO dX3_isRank_14 rfl ?_
      refine x_iret hO hR dX3_isRank_15 rfl ?_
      exact ⟨bI_f (ixB_hi c2), rfl⟩
    · refine x_iconst (v := nI 1) hO dX3_isRank_10 rfl ?_
      refine x_goto (tgt := 15) hO dX3_isRank_11 (by decide) ?_
      refine x_iret hO hR dX3_isRank_15 rfl ?_
      exact ⟨bI_t (ixB_in c c2), rfl⟩
theorem k_isAction (U : xP) (M : xM) (x : Int32) : xMetI U mX3_isAction [.inl x] M (fun r M' => r = bI (ixB x 10) ∧ M' = M) := by
  refine xMetI.of (ty := .boolean) (L := [some (.inl x)]) fX3_isAction rfl rfl (Nat.le_of_ble_eq_true rfl) (fun G hN hO hR => ?_)
  have hN : G.2.2.2.2.2.2.2.2.2.2.1 = 1 := hN
  have hO : xOK U G RX3 cX3_isAction 0 := hO
  refine x_iload_n hO dX3_isAction_0 rfl rfl ?_
  refine x_if_lt (tgt := 14) hO dX3_isAction_1 (by decide) (fun c => ?_) (fun c => ?_)
  · refine x_iconst (v := nI 0) hO dX3_isAction_14 rfl ?_
    refine x_iret hO hR dX3_isAction_15 rfl ?_
    exact ⟨bI_f (ixB_lo c), rfl⟩
  · refine x_iload_n hO dX3_isAction_4 rfl rfl ?_
    refine x_bipush (v := nI 10) hO dX3_isAction_5 rfl ?_
    refine x_icmp_ge (tgt := 14) hO dX3_isAction_7 (by decide) (fun c2 => ?_) (fun c2 => ?_)
    · refine x_iconst (v := nI 0) hO dX3_isAction_14 rfl ?_
      refine x_iret hO hR dX3_isAction_15 rfl ?_
      exact ⟨bI_f (ixB_hi c2), rfl⟩
    · refine x_iconst (v := nI 1) hO dX3_isAction_10 rfl ?_
      refine x_goto (tgt := 15) hO dX3_isAction_11 (by decide) ?_
      refine x_iret hO hR dX3_isAction_15 rfl ?_
      exact ⟨bI_t (ixB_in c c2), rfl⟩
def rgB (x y : Int32) : Bool := ixB x 256 && ixB y 256 && decide (x ≤ y)
theorem k_isRange (U : xP) (M : xM) (x y : Int32) : xMetI U mX3_isRange [.inl x, .inl y] M (fun r M' => r = bI (rgB x y) ∧ M' = M) := by
  refine xMetI.of (ty := .boolean) (L := [some (.inl x), some (.inl y)]) fX3_isRange rfl rfl (Nat.le_of_ble_eq_true rfl) (fun G hN hO hR => ?_)
  have hN : G.2.2.2.2.2.2.2.2.2.2.1 = 2 := hN
  have hO : xOK U G RX3 cX3_isRange 1 := hO
  refine x_iload_n hO dX3_isRange_0 rfl rfl ?_
  refine x_callS1 hO (k_isKey U M x) dX3_isRange_1 lkX3_37 fX3_isKey sX3_isKey rfl rfl (by decide) (Nat.le_of_ble_eq_true rfl) ?_
  refine x_if_eq (tgt := 23) hO dX3_isRange_4 (by decide) (fun c => ?_) (fun c => ?_)
  · refine x_iconst (v := nI 0) hO dX3_isRange_23 rfl ?_
    refine x_iret hO hR dX3_isRange_24 rfl ?_
    exact ⟨bI_f (by simp [rgB, bI_0 c]), rfl⟩
  · refine x_iload_n hO dX3_isRange_7 rfl rfl ?_
    refine x_callS1 hO (k_isKey U M y) dX3_isRange_8 lkX3_37 fX3_isKey sX3_isKey rfl rfl (by decide) (Nat.le_of_ble_eq_true rfl) ?_
    refine x_if_eq (tgt := 23) hO dX3_isRange_11 (by decide) (fun c2 => ?_) (fun c2 => ?_)
    · refine x_iconst (v := nI 0) hO dX3_isRange_23 rfl ?_
      refine x_iret hO hR dX3_isRange_24 rfl ?_
      exact ⟨bI_f (by simp [rgB, bI_0 c2]), rfl⟩
    · refine x_iload_n hO dX3_isRange_14 rfl rfl ?_
      refine x_iload_n hO dX3_isRange_15 rfl rfl ?_
      refine x_icmp_gt (tgt := 23) hO dX3_isRange_16 (by decide) (fun c3 => ?_) (fun c3 => ?_)
      · refine x_iconst (v := nI 0) hO dX3_isRange_23 rfl ?_
        refine x_iret hO hR dX3_isRange_24 rfl ?_
        exact ⟨bI_f (by simp [rgB, Int32.not_le.mpr c3]), rfl⟩
      · refine x_iconst (v := nI 1) hO dX3_isRange_19 rfl ?_
        refine x_goto (tgt := 24) hO dX3_isRange_20 (by decide) ?_
        refine x_iret hO hR dX3_isRange_24 rfl ?_
        exact ⟨bI_t (by simp [rgB, bI_1 c, bI_1 c2, Int32.not_lt.mp c3]), rfl⟩
/-- the sort of a mask -/
def aSo (m : Int32) : Int32 := if m = nI 255 then nI 0 else if (nI 255 - m) &&& ((nI 255 - m) + nI 1) = 0 then nI 1 else nI 2
theorem k_sortOfMask (U : xP) (M : xM) (x : Int32) : xMetI U mX3_sortOfMask [.inl x] M (fun r M' => r = aSo x ∧ M' = M) := by
  refine xMetI.of (ty := .int) (L := [some (.inl x), none]) fX3_sortOfMask rfl rfl (Nat.le_of_ble_eq_true rfl) (fun G hN hO hR => ?_)
  have hN : G.2.2.2.2.2.2.2.2.2.2.1 = 2 := hN
  have hO : xOK U G RX3 cX3_sortOfMask 0 := hO
  unfold aSo at hR
  refine x_iload_n hO dX3_sortOfMask_0 rfl rfl ?_
  refine x_sipush (v := nI 255) hO dX3_sortOfMask_1 rfl ?_
  refine x_icmp_ne (tgt := 9) hO dX3_sortOfMask_4 (by decide) (fun c => ?_) (fun c => ?_)
  · rw [if_neg c] at hR
    refine x_sipush (v := nI 255) hO dX3_sortOfMask_9 rfl ?_
    refine x_iload_n hO dX3_sortOfMask_12 rfl rfl ?_
    refine x_isub hO dX3_sortOfMask_13 ?_
    refine x_istore_n (n := 2) hO dX3_sortOfMask_14 rfl rfl (by decide) hN ?_
    refine x_iload_n hO dX3_sortOfMask_15 rfl rfl ?_
    refine x_iload_n hO dX3_sortOfMask_16 rfl rfl ?_
    refine x_iconst (v := nI 1) hO dX3_sortOfMask_17 rfl ?_
    refine x_iadd hO dX3_sortOfMask_18 ?_
    refine x_iand hO dX3_sortOfMask_19 ?_
    refine x_if_ne (tgt := 27) hO dX3_sortOfMask_20 (by decide) (fun c2 => ?_) (fun c2 => ?_)
    · rw [if_neg c2] at hR
      refine x_iconst (v := nI 2) hO dX3_sortOfMask_27 rfl ?_
      refine x_iret hO hR dX3_sortOfMask_28 rfl ?_
      exact ⟨rfl, rfl⟩
    · rw [if_pos c2] at hR
      refine x_iconst (v := nI 1) hO dX3_sortOfMask_23 rfl ?_
      refine x_goto (tgt := 28) hO dX3_sortOfMask_24 (by decide) ?_
      refine x_iret hO hR dX3_sortOfMask_28 rfl ?_
      exact ⟨rfl, rfl⟩
  · rw [if_pos c] at hR
    refine x_iconst (v := nI 0) hO dX3_sortOfMask_7 rfl ?_
    refine x_iret hO hR dX3_sortOfMask_8 rfl ?_
    exact ⟨rfl, rfl⟩
/-! ===== blocks ===== -/
/-- the size of a block that begins with f and has s keys already, at most d times twice as many -/
def bsz (f h : Nat) : Nat → Nat → Nat
  | s, 0 => s
  | s, d + 1 => if f % (2 * s) = 0 ∧ f + 2 * s - 1 ≤ h then bsz f h (2 * s) d else s
def bS (f h : Nat) : Nat := bsz f h 1 8
theorem bsz_le (f h : Nat) : ∀ d s, s ≤ bsz f h s d ∧ bsz f h s d ≤ s * 2 ^ d
  | 0, s => by simp [bsz]
  | d + 1, s => by
    have := bsz_le f h d (2 * s)
    have e : s * 2 ^ (d + 1) = 2 * s * 2 ^ d := by rw [Nat.pow_succ]; ac_rfl
    have e2 : s ≤ s * 2 ^ (d + 1) := Nat.le_mul_of_pos_right _ (Nat.pow_pos (by decide))
    simp only [bsz]
    split <;> omega
theorem bS_le (f h : Nat) : 1 ≤ bS f h ∧ bS f h ≤ 256 := bsz_le f h 8 1
theorem pow_lt31 {k : Nat} (h : k ≤ 9) : 2 ^ k ≤ 512 := Nat.pow_le_pow_right (n := 2) (by decide) h
theorem k_blockSize (U : xP) (M : xM) {f h : Nat} (hf : f < 512) (hh : h < 256) : xMetI U mX3_blockSize [.inl (nI f), .inl (nI h)] M (fun r M' => r = nI (bS f h) ∧ M' = M) := by
  refine xMetI.of (ty := .int) (L := [some (.inl (nI f)), some (.inl (nI h)), none, none]) fX3_blockSize rfl rfl (Nat.le_of_ble_eq_true rfl) (fun G hN hO hR => ?_)
  have hN : G.2.2.2.2.2.2.2.2.2.2.1 = 4 := hN
  have hO : xOK U G RX3 cX3_blockSize 0 := hO
  generalize hg : bS f h = g at hR
  refine x_iconst (v := nI 1) hO dX3_blockSize_0 rfl ?_
  refine x_istore_n (n := 4) hO dX3_blockSize_1 rfl rfl (by decide) hN ?_
  refine x_iconst (v := nI 2) hO dX3_blockSize_2 rfl ?_
  refine x_istore_n (n := 4) hO dX3_blockSize_3 rfl rfl (by decide) hN ?_
  refine upd_ind (P := fun k d => bsz f h (2 ^ k) d = g → XW U G 4 [some (.inl (nI f)), some (.inl (nI h)), some (.inl (nI (2 ^ k))), some (.inl (nI (2 ^ k * 2)))] [] M) 8 ?_ ?_ 8 0 rfl hg
  · intro hg
    refine x_iload_n hO dX3_blockSize_4 rfl rfl ?_
    refine x_sipush (v := nI 256) hO dX3_blockSize_5 rfl ?_
    refine x_icmp_gt (tgt := 39) hO dX3_blockSize_8 (by decide) (fun c => ?_) (fun c => ?_)
    · refine x_iload_n hO dX3_blockSize_39 rfl rfl ?_
      refine x_iret hO hR dX3_blockSize_40 rfl ?_
      exact ⟨by rw [← hg]; rfl, rfl⟩
    · exact absurd (nI_lt (by decide) (by decide)) c
  · intro k d hd ih hg
    have hk := pow_lt31 (k := k + 1) (by omega)
    have hk0 : 0 < 2 ^ k := Nat.pow_pos (by decide)
    have hk2 : 2 ^ (k + 1) = 2 ^ k * 2 := Nat.pow_succ ..
    have hk8 : 2 ^ (k + 1) ≤ 256 := by have := Nat.pow_le_pow_right (n := 2) (by decide) (show k + 1 ≤ 8 by omega); omega
    simp only [bsz] at hg
    refine x_iload_n hO dX3_blockSize_4 rfl rfl ?_
    refine x_sipush (v := nI 256) hO dX3_blockSize_5 rfl ?_
    refine x_icmp_gt (tgt := 39) hO dX3_blockSize_8 (by decide) (fun c => ?_) (fun c => ?_)
    · exact absurd c (nI_nlt (by omega) (by omega))
    · refine x_iload_n hO dX3_blockSize_11 rfl rfl ?_
      refine x_iload_n hO dX3_blockSize_12 rfl rfl ?_
      refine x_iconst (v := nI 1) hO dX3_blockSize_13 rfl ?_
      refine x_isub hO dX3_blockSize_14 ?_
      rw [pk_sub (by omega)]
      refine x_iand hO dX3_blockSize_15 ?_
      rw [pk_andN (by omega) (k + 1) (by rw [pk_tn (by omega)]; omega)]
      have em : f % 2 ^ (k + 1) < 512 := by have := Nat.mod_lt f (show 0 < 2 ^ (k + 1) by omega); omega
      rw [hk2] at em ⊢
      rw [show 2 * 2 ^ k = 2 ^ k * 2 from Nat.mul_comm ..] at hg
      refine x_if_ne (tgt := 28) hO dX3_blockSize_16 (by decide) (fun c2 => ?_) (fun c2 => ?_)
      · refine x_iload_n hO dX3_blockSize_28 rfl rfl ?_
        refine x_iret hO hR dX3_blockSize_29 rfl ?_
        exact ⟨by rw [← hg, if_neg (fun z => c2 (by rw [z.1]; rfl))], rfl⟩
      · have q : f % (2 ^ k * 2) = 0 := (nI_eq (b := 0) (by omega) (by decide)).mp c2
        refine x_iload_n hO dX3_blockSize_19 rfl rfl ?_
        refine x_iload_n hO dX3_blockSize_20 rfl rfl ?_
        refine x_iadd hO dX3_blockSize_21 ?_
        rw [nI_add]
        refine x_iconst (v := nI 1) hO dX3_blockSize_22 rfl ?_
        refine x_isub hO dX3_blockSize_23 ?_
        rw [pk_sub (by omega)]
        refine x_iload_n hO dX3_blockSize_24 rfl rfl ?_
        refine x_icmp_le (tgt := 30) hO dX3_blockSize_25 (by decide) (fun c3 => ?_) (fun c3 => ?_)
        · have q3 : f + 2 ^ k * 2 - 1 ≤ h := (nI_leI (by omega) (by omega)).mp c3
          rw [if_pos ⟨q, q3⟩] at hg
          refine x_iload_n hO dX3_blockSize_30 rfl rfl ?_
          refine x_istore_n (n := 4) hO dX3_blockSize_31 rfl rfl (by decide) hN ?_
          refine x_iload_n hO dX3_blockSize_32 rfl rfl ?_
          refine x_iconst (v := nI 2) hO dX3_blockSize_33 rfl ?_
          refine x_imul hO dX3_blockSize_34 ?_
          rw [pk_mul]
          refine x_istore_n (n := 4) hO dX3_blockSize_35 rfl rfl (by decide) hN ?_
          refine x_goto (tgt := 4) hO dX3_blockSize_36 (by decide) ?_
          rw [hk2] at ih
          exact ih hg
        · have q3 : ¬ f + 2 ^ k * 2 - 1 ≤ h := fun z => c3 ((nI_leI (by omega) (by omega)).mpr z)
          refine x_iload_n hO dX3_blockSize_28 rfl rfl ?_
          refine x_iret hO hR dX3_blockSize_29 rfl ?_
          exact ⟨by rw [← hg, if_neg (fun z => q3 z.2)], rfl⟩
/-- how many blocks from f to h, at most d -/
def bCn (h : Nat) : Nat → Nat → Nat
  | _, 0 => 0
  | f, d + 1 => if h < f then 0 else bCn h (f + bS f h) d + 1
/-- the place of the first key behind k blocks from f on -/
theorem bsz_fit (f h : Nat) : ∀ d s, f + s - 1 ≤ h → f + bsz f h s d - 1 ≤ h
  | 0, s, q => q
  | d + 1, s, q => by
    simp only [bsz]
    split
    · rename_i z
      exact bsz_fit f h d (2 * s) z.2
    · exact q
theorem bS_fit {f h : Nat} (q : f ≤ h) : f + bS f h ≤ h + 1 := by
  have := bsz_fit f h 8 1 (by omega)
  have := (bS_le f h).1
  unfold bS at *
  omega
theorem k_blocksOf (U : xP) (M : xM) {f h : Nat} (hf : f < 256) (hh : h < 256) : xMetI U mX3_blocksOf [.inl (nI f), .inl (nI h)] M (fun r M' => r = nI (bCn h f 14) ∧ M' = M) := by
  refine xMetI.of (ty := .int) (L := [some (.inl (nI f)), some (.inl (nI h)), none, none]) fX3_blocksOf rfl rfl (Nat.le_of_ble_eq_true rfl) (fun G hN hO hR => ?_)
  have hN : G.2.2.2.2.2.2.2.2.2.2.1 = 4 := hN
  have hO : xOK U G RX3 cX3_blocksOf 1 := hO
  generalize hg : bCn h f 14 = g at hR
  refine x_iload_n hO dX3_blocksOf_0 rfl rfl ?_
  refine x_istore_n (n := 4) hO dX3_blocksOf_1 rfl rfl (by decide) hN ?_
  refine x_iconst (v := nI 0) hO dX3_blocksOf_2 rfl ?_
  refine x_istore_n (n := 4) hO dX3_blocksOf_3 rfl rfl (by decide) hN ?_
  refine upd_ind (P := fun i d => ∀ f1, f1 ≤ 256 → i + bCn h f1 d = g → XW U G 4 [some (.inl (nI f)), some (.inl (nI h)), some (.inl (nI f1)), some (.inl (nI i))] [] M) 14 ?_ ?_ 14 0 rfl f (by omega) (by omega)
  · intro f1 hf1 hg
    refine x_iload_n hO dX3_blocksOf_4 rfl rfl ?_
    refine x_bipush (v := nI 14) hO dX3_blocksOf_5 rfl ?_
    refine x_icmp_ge (tgt := 31) hO dX3_blocksOf_7 (by decide) (fun c => ?_) (fun c => ?_)
    · refine x_bipush (v := nI 14) hO dX3_blocksOf_31 rfl ?_
      refine x_iret hO hR dX3_blocksOf_33 rfl ?_
      exact ⟨by rw [← hg]; rfl, rfl⟩
    · exact absurd (Int32.le_refl _) c
  · intro i d hd ih f1 hf1 hg
    simp only [bCn] at hg
    refine x_iload_n hO dX3_blocksOf_4 rfl rfl ?_
    refine x_bipush (v := nI 14) hO dX3_blocksOf_5 rfl ?_
    refine x_icmp_ge (tgt := 31) hO dX3_blocksOf_7 (by decide) (fun c => ?_) (fun c => ?_)
    · exact absurd c (nI_ge (by omega) (by decide))
    · refine x_iload_n hO dX3_blocksOf_10 rfl rfl ?_
      refine x_iload_n hO dX3_blocksOf_11 rfl rfl ?_
      refine x_icmp_le (tgt := 17) hO dX3_blocksOf_12 (by decide) (fun c2 => ?_) (fun c2 => ?_)
      · have q : f1 ≤ h := (nI_leI (by omega) (by omega)).mp c2
        have q2 := bS_fit q
        rw [if_neg (by omega)] at hg
        refine x_iload_n hO dX3_blocksOf_17 rfl rfl ?_
        refine x_iload_n hO dX3_blocksOf_18 rfl rfl ?_
        refine x_iload_n hO dX3_blocksOf_19 rfl rfl ?_
        refine x_callS1 hO (k_blockSize U M (f := f1) (h := h) (by omega) hh) dX3_blocksOf_20 lkX3_207 fX3_blockSize sX3_blockSize rfl rfl (by decide) (Nat.le_of_ble_eq_true rfl) ?_
        refine x_iadd hO dX3_blocksOf_23 ?_
        rw [nI_add]
        refine x_istore_n (n := 4) hO dX3_blocksOf_24 rfl rfl (by decide) hN ?_
        refine x_iinc hO dX3_blocksOf_25 rfl (by first | exact xinc_n _ | rfl) rfl hN ?_
        refine x_goto (tgt := 4) hO dX3_blocksOf_28 (by decide) ?_
        exact ih _ (by omega) (by omega)
      · have q : ¬ f1 ≤ h := fun z => c2 ((nI_leI (by omega) (by omega)).mpr z)
        rw [if_pos (by omega)] at hg
        refine x_iload_n hO dX3_blocksOf_15 rfl rfl ?_
        refine x_iret hO hR dX3_blocksOf_16 rfl ?_
        exact ⟨by rw [← hg]; rfl, rfl⟩
end
section
/-! ===== Memory.addBlocks ===== -/
theorem nC_ins {P Q : Nat → Bool} {t : Nat} (ht : P t = false) : ∀ {n : Nat}, t < n → (∀ s, s < n → Q s = (P s || s == t)) → nC Q n = nC P n + 1
  | 0, h, _ => by omega
  | n + 1, h, hq => by
    rcases Nat.lt_or_ge t n with q | q
    · have := nC_ins ht q (fun s hs => hq s (by omega))
      have e : Q n = P n := by rw [hq n (by omega), beq_false_of_ne (by omega : n ≠ t), Bool.or_false]
      simp only [nC, this, e]
      omega
    · obtain rfl : t = n := by omega
      have e : nC Q t = nC P t := nC_congr (fun s hs => by rw [hq s (by omega), beq_false_of_ne (by omega : s ≠ t), Bool.or_false])
      rw [nC_f ht, nC_t (by rw [hq t (by omega)]; simp), e]
theorem aGap {A : aR} {r : Int32} {s : Nat} (h1 : aP A r ≤ s) (h2 : s < aB A r) : aoc A s = false := by
  have b := aB_le A r
  have e1 := nL_no (P := pUp A r) h1 (by omega)
  have e2 := nF_no (P := pBy A r) 32 0 s (by omega) h2
  unfold pUp at e1
  unfold pBy at e2
  cases e : aoc A s with
  | false => rfl
  | true =>
    rw [e] at e1 e2
    simp at e1 e2
    exact absurd e1 (Int32.not_lt.mpr e2)
/-- a new row takes one free slot more -/
theorem aAdd_oc {A : aR} (P r : Int32) {row : Nat → Int32} (h : aCnt A < 32) (hr : row 0 ≠ -1) : ∃ t, t < 32 ∧ aoc A t = false ∧ ∀ s, s < 32 → aoc (aAdd A P r row) s = (aoc A s || s == t) := by
  have h1 := aP_le A r
  have h2 := aB_le A r
  have hrow : ∀ (B : aR) (s : Nat), B s = row → aoc B s = true := fun B s e => by unfold aoc; rw [e]; simpa using hr
  have hcop : ∀ (B : aR) (s t : Nat), B s = A t → aoc B s = aoc A t := fun B s t e => by unfold aoc; rw [e]
  rcases Nat.lt_or_ge (aP A r) (aB A r) with q | q
  · have hs := aPl_lt (P := P) h2 q
    refine ⟨aPl P (aP A r) (aB A r), by omega, aGap hs.1 hs.2, fun s _ => ?_⟩
    have e : oS A P r = aPl P (aP A r) (aB A r) := by unfold oS; rw [if_pos q]
    have e2 : oA A r = A := by unfold oA; rw [if_pos q]
    by_cases z : s = aPl P (aP A r) (aB A r)
    · rw [hrow _ s (by unfold aAdd; rw [e, if_pos z]), beq_iff_eq.mpr z, Bool.or_true]
    · rw [hcop _ s s (by unfold aAdd; rw [e, if_neg z, e2]), beq_false_of_ne z, Bool.or_false]
  · have h3 := oM_free h h1 q
    have u3 := aMu_33 A (aB A r)
    have d3 := aMd_33 A h1
    have nq : ¬ aP A r < aB A r := by omega
    by_cases q2 : aMu A (aB A r) ≤ aMd A (aP A r)
    · obtain ⟨a1, a2, a3⟩ := aMu_le (A := A) (f := aB A r) (by omega)
      have e : oS A P r = aB A r := by unfold oS; rw [if_neg nq, if_pos q2]
      have e2 : oA A r = aUp A (aB A r) (aMu A (aB A r)) 0 := by unfold oA; rw [if_neg nq, if_pos q2]
      generalize aMu A (aB A r) = n at *
      generalize aB A r = b at *
      refine ⟨b + n, a1, a2, fun s _ => ?_⟩
      by_cases z : s = b
      · rw [hrow _ s (by unfold aAdd; rw [e, if_pos z])]
        by_cases z2 : n = 0
        · rw [beq_iff_eq.mpr (by omega), Bool.or_true]
        · rw [a3 s (by omega) (by omega), Bool.true_or]
      · by_cases z2 : b < s ∧ s ≤ b + n
        · rw [hcop _ s (s - 1) (by unfold aAdd; rw [e, if_neg z, e2]; unfold aUp; rw [if_pos (by omega)])]
          rw [a3 (s - 1) (by omega) (by omega)]
          by_cases z3 : s = b + n
          · rw [beq_iff_eq.mpr z3, Bool.or_true]
          · rw [a3 s (by omega) (by omega), Bool.true_or]
        · rw [hcop _ s s (by unfold aAdd; rw [e, if_neg z, e2]; unfold aUp; rw [if_neg (by omega), if_neg (by omega)]), beq_false_of_ne (by omega : s ≠ b + n), Bool.or_false]
    · obtain ⟨a1, a2, a3⟩ := aMd_le (A := A) h1 (by omega)
      have e : oS A P r = aP A r - 1 := by unfold oS; rw [if_neg nq, if_neg q2]
      have e2 : oA A r = aDn A (aP A r - 1) (aMd A (aP A r)) (aMd A (aP A r)) := by unfold oA; rw [if_neg nq, if_neg q2]
      generalize aMd A (aP A r) = n at *
      generalize aP A r = p at *
      refine ⟨p - 1 - n, by omega, a2, fun s _ => ?_⟩
      by_cases z : s = p - 1
      · rw [hrow _ s (by unfold aAdd; rw [e, if_pos z])]
        by_cases z2 : n = 0
        · rw [beq_iff_eq.mpr (by omega), Bool.or_true]
        · rw [a3 s (by omega) (by omega), Bool.true_or]
      · by_cases z2 : p - 1 - n ≤ s ∧ s < p - 1
        · rw [hcop _ s (s + 1) (by unfold aAdd; rw [e, if_neg z, e2]; unfold aDn; rw [if_pos (by omega)])]
          rw [a3 (s + 1) (by omega) (by omega)]
          by_cases z3 : s = p - 1 - n
          · rw [beq_iff_eq.mpr z3, Bool.or_true]
          · rw [a3 s (by omega) (by omega), Bool.true_or]
        · rw [hcop _ s s (by unfold aAdd; rw [e, if_neg z, e2]; unfold aDn; rw [if_neg (by omega), if_neg (by omega)]), beq_false_of_ne (by omega : s ≠ p - 1 - n), Bool.or_false]
theorem aCnt_add {A : aR} (P r : Int32) {row : Nat → Int32} (h : aCnt A < 32) (hr : row 0 ≠ -1) : aCnt (aAdd A P r row) = aCnt A + 1 := by
  obtain ⟨t, h1, h2, h3⟩ := aAdd_oc P r h hr
  exact nC_ins h2 h1 h3
/-- the blocks from f to h, the next part's number part, one by one: the rows, and the moves -/
def aBlk (P k a rule : Int32) (h : Nat) : Nat → Nat → Nat → aR × Int32 → aR × Int32
  | 0, _, _, x => x
  | d + 1, part, f, x => if h < f then x else aBlk P k a rule h d (part + 1) (f + bS f h) (aAdd x.1 P k (rowOf rule (nI part) (nI (256 - bS f h)) (nI f) k a), x.2 + nI (oM x.1 k))
theorem k_addBlocks (U : xP) (M : xM) {lo h : Nat} (hlo : lo < 256) (hh : h < 256) (k a : Int32) (hc : aCnt (cA M 16) + bCn h lo 14 ≤ 32) (hr : M 16 8 ≠ -1) : xMetI U mX1_addBlocks [.inr 16, .inl (nI lo), .inl (nI h), .inl k, .inl a] M (fun r M' => r = M 16 8 ∧ mSt M M' (aBlk (M 16 7) k a (M 16 8) h 14 0 lo (cA M 16, M 16 9)).1 (upd (upd (M 16) 8 (M 16 8 + nI 1)) 9 (aBlk (M 16 7) k a (M 16 8) h 14 0 lo (cA M 16, M 16 9)).2)) := by
  refine xMetI.of (ty := .int) (L := [some (.inr 16), some (.inl (nI lo)), some (.inl (nI h)), some (.inl k), some (.inl a), none, none, none, none]) fX1_addBlocks rfl rfl (Nat.le_of_ble_eq_true rfl) (fun G hN hO hR => ?_)
  have hN : G.2.2.2.2.2.2.2.2.2.2.1 = 9 := hN
  have hO : xOK U G RX1 cX1_addBlocks 4 := hO
  generalize hg : aBlk (M 16 7) k a (M 16 8) h 14 0 lo (cA M 16, M 16 9) = g at hR
  refine x_aload_n hO dX1_addBlocks_0 rfl rfl ?_
  refine x_getI (T := TX1) (j := 8) hO dX1_addBlocks_1 flX1_37 (by decide) rfl rfl (by decide) rfl rfl ?_
  refine x_istore (n := 9) hO dX1_addBlocks_4 rfl (by decide) hN ?_
  refine x_aload_n hO dX1_addBlocks_6 rfl rfl ?_
  refine x_dup hO dX1_addBlocks_7 ?_
  refine x_getI (T := TX1) (j := 8) hO dX1_addBlocks_8 flX1_37 (by decide) rfl rfl (by decide) rfl rfl ?_
  refine x_iconst (v := nI 1) hO dX1_addBlocks_11 rfl ?_
  refine x_iadd hO dX1_addBlocks_12 ?_
  refine x_put (T := TX1) (j := 8) (ty := .int) hO dX1_addBlocks_13 flX1_37 (by decide) rfl rfl (by decide) rfl rfl rfl (by decide +kernel) rfl rfl ?_
  refine x_iload_n hO dX1_addBlocks_16 rfl rfl ?_
  refine x_istore (n := 9) hO dX1_addBlocks_17 rfl (by decide) hN ?_
  refine x_iconst (v := nI 0) hO dX1_addBlocks_19 rfl ?_
  refine x_istore (n := 9) hO dX1_addBlocks_20 rfl (by decide) hN ?_
  have h1 := mSt.num (M := M) 8 (by decide) (M 16 8 + nI 1)
  generalize xset M 16 8 (M 16 8 + nI 1) = M1 at h1 ⊢
  have h0 : upd (M 16) 8 (M 16 8 + nI 1) = upd (upd (M 16) 8 (M 16 8 + nI 1)) 9 (M 16 9) := by
    funext j
    unfold upd
    by_cases e : j = 9
    · simp [e]
    · simp [e]
  rw [h0] at h1
  refine upd_ind (P := fun i d => ∀ (f : Nat) (o : Option xV) (A1 : aR) (mv : Int32) (M1 : xM), f ≤ 256 → aCnt A1 + bCn h f d ≤ 32 → mSt M M1 A1 (upd (upd (M 16) 8 (M 16 8 + nI 1)) 9 mv) → aBlk (M 16 7) k a (M 16 8) h d i f (A1, mv) = g → XW U G 22 [some (.inr 16), some (.inl (nI lo)), some (.inl (nI h)), some (.inl k), some (.inl a), some (.inl (M 16 8)), some (.inl (nI f)), some (.inl (nI i)), o] [] M1) 14 ?_ ?_ 14 0 rfl lo _ (cA M 16) (M 16 9) M1 (by omega) hc h1 hg
  · intro f o A1 mv M1 hf _ h1 hg
    refine x_iload hO dX1_addBlocks_22 rfl ?_
    refine x_bipush (v := nI 14) hO dX1_addBlocks_24 rfl ?_
    refine x_icmp_ge (tgt := 80) hO dX1_addBlocks_26 (by decide) (fun c => ?_) (fun c => ?_)
    · refine x_iload hO dX1_addBlocks_80 rfl ?_
      refine x_iret hO hR dX1_addBlocks_82 rfl ?_
      simp only [aBlk] at hg
      rw [← hg]
      exact ⟨rfl, h1⟩
    · exact absurd (Int32.le_refl _) c
  · intro i d hd ih f o A1 mv M1 hf hc1 h1 hg
    have e7 : M1 16 7 = M 16 7 := by rw [h1.2.1]; rfl
    have e9 : M1 16 9 = mv := by rw [h1.2.1]; rfl
    simp only [aBlk] at hg
    simp only [bCn] at hc1
    refine x_iload hO dX1_addBlocks_22 rfl ?_
    refine x_bipush (v := nI 14) hO dX1_addBlocks_24 rfl ?_
    refine x_icmp_ge (tgt := 80) hO dX1_addBlocks_26 (by decide) (fun c => ?_) (fun c => ?_)
    · exact absurd c (nI_ge (by omega) (by decide))
    · refine x_iload hO dX1_addBlocks_29 rfl ?_
      refine x_iload_n hO dX1_addBlocks_31 rfl rfl ?_
      refine x_icmp_gt (tgt := 80) hO dX1_addBlocks_32 (by decide) (fun c2 => ?_) (fun c2 => ?_)
      · have q : h < f := (nI_ltI (by omega) (by omega)).mp c2
        rw [if_pos q] at hg
        refine x_iload hO dX1_addBlocks_80 rfl ?_
        refine x_iret hO hR dX1_addBlocks_82 rfl ?_
        rw [← hg]
        exact ⟨rfl, h1⟩
      · have q : ¬ h < f := fun z => c2 ((nI_ltI (by omega) (by omega)).mpr z)
        have q2 := bS_fit (f := f) (h := h) (by omega)
        have q3 := bS_le f h
        rw [if_neg q] at hg hc1
        refine x_iload hO dX1_addBlocks_35 rfl ?_
        refine x_iload_n hO dX1_addBlocks_37 rfl rfl ?_
        refine x_callSN1 hO (k_blockSize U M1 (f := f) (h := h) (by omega) hh) dX1_addBlocks_38 lkX1_71 fX3_blockSize sX3_blockSize rfl rfl (by decide) (Nat.le_of_ble_eq_true rfl) ?_
        refine x_istore (n := 9) hO dX1_addBlocks_41 rfl (by decide) hN ?_
        refine x_aload_n hO dX1_addBlocks_43 rfl rfl ?_
        refine x_aload_n hO dX1_addBlocks_44 rfl rfl ?_
        refine x_iload_n hO dX1_addBlocks_45 rfl rfl ?_
        refine x_callV hO (k_openSlot U M1 k (by rw [h1.1]; omega)) dX1_addBlocks_46 lkX1_64 fX1_openSlot vX1_openSlot (by decide) rfl rfl rfl rfl rfl (by decide) (Nat.le_of_ble_eq_true rfl) (fun r M' h2 => ?_)
        obtain ⟨rfl, h2⟩ := h2
        have h3 := mSt.tr h1 h2
        rw [h1.1, e9, h1.2.1] at h3
        rw [h1.1, e7]
        refine x_iload hO dX1_addBlocks_49 rfl ?_
        refine x_iload hO dX1_addBlocks_51 rfl ?_
        refine x_sipush (v := nI 256) hO dX1_addBlocks_53 rfl ?_
        refine x_iload hO dX1_addBlocks_56 rfl ?_
        refine x_isub hO dX1_addBlocks_58 ?_
        rw [pk_sub (by omega)]
        refine x_iload hO dX1_addBlocks_59 rfl ?_
        refine x_iload_n hO dX1_addBlocks_61 rfl rfl ?_
        refine x_iload hO dX1_addBlocks_62 rfl ?_
        refine x_callVv hO (k_fill U M' (j := oS A1 (M 16 7) k) (oS_lt _ _ (by omega)) (M 16 8) (nI i) (nI (256 - bS f h)) (nI f) k a hr) dX1_addBlocks_64 lkX1_67 fX1_fill vX1_fill (by decide) rfl rfl rfl rfl rfl (by decide) (Nat.le_of_ble_eq_true rfl) (fun M' h4 => ?_)
        have h5 := mSt.tr h3 h4
        rw [h3.1, h3.2.1] at h5
        have e : upd (upd (upd (M 16) 8 (M 16 8 + nI 1)) 9 mv) 9 (mv + nI (oM A1 k)) = upd (upd (M 16) 8 (M 16 8 + nI 1)) 9 (mv + nI (oM A1 k)) := by
          funext j
          unfold upd
          split <;> rfl
        rw [e] at h5
        have h5 : mSt M M' (aAdd A1 (M 16 7) k (rowOf (M 16 8) (nI i) (nI (256 - bS f h)) (nI f) k a)) (upd (upd (M 16) 8 (M 16 8 + nI 1)) 9 (mv + nI (oM A1 k))) := h5
        have hn : aCnt (aAdd A1 (M 16 7) k (rowOf (M 16 8) (nI i) (nI (256 - bS f h)) (nI f) k a)) = aCnt A1 + 1 := aCnt_add _ _ (by omega) hr
        refine x_iload hO dX1_addBlocks_67 rfl ?_
        refine x_iload hO dX1_addBlocks_69 rfl ?_
        refine x_iadd hO dX1_addBlocks_71 ?_
        rw [nI_add]
        refine x_istore (n := 9) hO dX1_addBlocks_72 rfl (by decide) hN ?_
        refine x_iinc hO dX1_addBlocks_74 rfl (by first | exact xinc_n _ | rfl) rfl hN ?_
        refine x_goto (tgt := 22) hO dX1_addBlocks_77 (by decide) ?_
        exact ih (f + bS f h) _ _ _ _ (by omega) (by omega) h5 hg
/-! ===== Memory.moveToFront, moveIntoShares ===== -/
/-- the slot of the entry with the place c in the order -/
def kth (A : aR) (c : Nat) : Nat := nF (fun s => aoc A s && (nC (aoc A) s == c)) 0 32
theorem nC_mono {P : Nat → Bool} : ∀ {a b : Nat}, a ≤ b → nC P a ≤ nC P b
  | a, 0, h => by obtain rfl : a = 0 := (by omega); exact Nat.le_refl _
  | a, b + 1, h => by
    rcases Nat.lt_or_ge b a with q | q
    · obtain rfl : a = b + 1 := (by omega)
      exact Nat.le_refl _
    · have := nC_mono (P := P) q
      simp only [nC]
      omega
theorem kth_at {A : aR} {s : Nat} (hs : s < 32) (h : aoc A s = true) : kth A (nC (aoc A) s) = s := by
  refine nF_eq (Nat.zero_le _) (by omega) (fun j _ hj => ?_) (fun _ => by simp [h])
  cases e : aoc A j with
  | false => rfl
  | true =>
    have h1 := nC_mono (P := aoc A) (a := j + 1) (b := s) (by omega)
    rw [nC_t e] at h1
    simp
    omega
/-- the rows when the first i slots' entries have gone to the front -/
def aFr (A : aR) (i : Nat) : aR := fun s => if s < nC (aoc A) i then A (kth A s) else if s < i then eR else A s
theorem aFr_0 (A : aR) : aFr A 0 = A := by
  funext s
  simp [aFr, nC]
theorem aFr_f {A : aR} {i : Nat} (h : aoc A i = false) (he : A i = eR) : aFr A (i + 1) = aFr A i := by
  funext s
  unfold aFr
  rw [nC_f h]
  by_cases q : s = i
  · subst q
    have z := nC_le (aoc A) s
    simp [Nat.not_lt.mpr z, he]
  · have : s < i + 1 ↔ s < i := by omega
    simp only [this]
theorem aFr_t {A : aR} {i : Nat} (hi : i < 32) (h : aoc A i = true) : aMv (aFr A i) i (nC (aoc A) i) = aFr A (i + 1) := by
  have hc := nC_le (aoc A) i
  have hk := kth_at hi h
  funext s
  unfold aMv aFr
  rw [nC_t h]
  generalize nC (aoc A) i = c at *
  by_cases q : i = c
  · rw [if_pos q]
    by_cases q2 : s = c
    · rw [if_neg (by omega), if_neg (by omega), if_pos (by omega), q2, hk, q]
    · by_cases q3 : s < c
      · rw [if_pos q3, if_pos (by omega)]
      · rw [if_neg q3, if_neg (by omega), if_neg (by omega), if_neg (by omega)]
  · rw [if_neg q]
    by_cases q2 : s = i
    · rw [if_pos q2, if_neg (by omega), if_pos (by omega)]
    · rw [if_neg q2]
      by_cases q3 : s = c
      · rw [if_pos q3, if_neg (by omega), if_neg (by omega), if_pos (by omega), q3, hk]
      · rw [if_neg q3]
        by_cases q4 : s < c
        · rw [if_pos q4, if_pos (by omega)]
        · rw [if_neg q4, if_neg (show ¬ s < c + 1 by omega)]
          have : s < i + 1 ↔ s < i := by omega
          simp only [this]
theorem k_moveToFront (U : xP) (M : xM) : xMetI U mX1_moveToFront [.inr 16] M (fun r M' => r = nI (aCnt (cA M 16)) ∧ mSt M M' (aFr (cA M 16) 32) (M 16)) := by
  refine xMetI.of (ty := .int) (L := [some (.inr 16), none, none]) fX1_moveToFront rfl rfl (Nat.le_of_ble_eq_true rfl) (fun G hN hO hR => ?_)
  have hN : G.2.2.2.2.2.2.2.2.2.2.1 = 3 := hN
  have hO : xOK U G RX1 cX1_moveToFront 2 := hO
  refine x_iconst (v := nI 0) hO dX1_moveToFront_0 rfl ?_
  refine x_istore_n (n := 3) hO dX1_moveToFront_1 rfl rfl (by decide) hN ?_
  refine x_iconst (v := nI 0) hO dX1_moveToFront_2 rfl ?_
  refine x_istore_n (n := 3) hO dX1_moveToFront_3 rfl rfl (by decide) hN ?_
  refine upd_ind (P := fun i _ => ∀ M1, mSt M M1 (aFr (cA M 16) i) (M 16) → XW U G 4 [some (.inr 16), some (.inl (nI (nC (aoc (cA M 16)) i))), some (.inl (nI i))] [] M1) 32 ?_ ?_ 32 0 rfl M (by rw [aFr_0]; exact mSt.rf M)
  · intro M1 h1
    refine x_iload_n hO dX1_moveToFront_4 rfl rfl ?_
    refine x_bipush (v := nI 32) hO dX1_moveToFront_5 rfl ?_
    refine x_icmp_ge (tgt := 33) hO dX1_moveToFront_7 (by decide) (fun c => ?_) (fun c => ?_)
    · refine x_iload_n hO dX1_moveToFront_33 rfl rfl ?_
      refine x_iret hO hR dX1_moveToFront_34 rfl ?_
      exact ⟨rfl, h1⟩
    · exact absurd (Int32.le_refl _) c
  · intro i d hd ih M1 h1
    have hi : i < 32 := by omega
    have hc := nC_le (aoc (cA M 16)) i
    have eo : aoc (cA M1 16) i = aoc (cA M 16) i := by
      rw [h1.1]
      unfold aoc aFr
      rw [if_neg (by omega), if_neg (by omega)]
    refine x_iload_n hO dX1_moveToFront_4 rfl rfl ?_
    refine x_bipush (v := nI 32) hO dX1_moveToFront_5 rfl ?_
    refine x_icmp_ge (tgt := 33) hO dX1_moveToFront_7 (by decide) (fun c => ?_) (fun c => ?_)
    · exact absurd c (nI_ge hi (by decide))
    · refine x_aload_n hO dX1_moveToFront_10 rfl rfl ?_
      refine x_iload_n hO dX1_moveToFront_11 rfl rfl ?_
      refine x_callV1 hO (k_holds M1 hi) dX1_moveToFront_12 lkX1_53 fX1_holdsEntry vX1_holdsEntry (by decide) rfl rfl rfl rfl rfl (by decide) (Nat.le_of_ble_eq_true rfl) ?_
      rw [eo]
      refine x_if_eq (tgt := 27) hO dX1_moveToFront_15 (by decide) (fun c2 => ?_) (fun c2 => ?_)
      · have e := bI_0 c2
        rw [nC_f e, aFr_f e (cA_none e)] at ih
        refine x_iinc hO dX1_moveToFront_27 rfl (by first | exact xinc_n _ | rfl) rfl hN ?_
        refine x_goto (tgt := 4) hO dX1_moveToFront_30 (by decide) ?_
        exact ih M1 h1
      · have e := bI_1 c2
        refine x_aload_n hO dX1_moveToFront_18 rfl rfl ?_
        refine x_iload_n hO dX1_moveToFront_19 rfl rfl ?_
        refine x_iload_n hO dX1_moveToFront_20 rfl rfl ?_
        refine x_callVv hO (k_moveEntry U M1 (i := i) (j := nC (aoc (cA M 16)) i) hi (by omega)) dX1_moveToFront_21 lkX1_102 fX1_moveEntry vX1_moveEntry (by decide) rfl rfl rfl rfl rfl (by decide) (Nat.le_of_ble_eq_true rfl) (fun M' h2 => ?_)
        have h3 := mSt.tr h1 h2
        rw [h1.1, h1.2.1, aFr_t hi e] at h3
        rw [nC_t e] at ih
        refine x_iinc hO dX1_moveToFront_24 rfl (by first | exact xinc_n _ | rfl) rfl hN ?_
        refine x_iinc hO dX1_moveToFront_27 rfl (by first | exact xinc_n _ | rfl) rfl hN ?_
        refine x_goto (tgt := 4) hO dX1_moveToFront_30 (by decide) ?_
        exact ih M' h3
/-- B has the entries of A, in their order, in the first slots of n shares -/
def isSp (A : aR) (n : Nat) (B : aR) : Prop := (∀ p, p < aCnt A → B (aTg n p) = A (kth A p)) ∧ ∀ s, (∀ p, p < aCnt A → aTg n p ≠ s) → B s = eR
theorem isSp.uni {A : aR} {n : Nat} {B C : aR} (h1 : isSp A n B) (h2 : isSp A n C) : B = C := by
  funext s
  rcases Classical.em (∃ p, p < aCnt A ∧ aTg n p = s) with ⟨p, hp, rfl⟩ | q
  · rw [h1.1 p hp, h2.1 p hp]
  · have q : ∀ p, p < aCnt A → aTg n p ≠ s := fun p hp e => q ⟨p, hp, e⟩
    rw [h1.2 s q, h2.2 s q]
/-- shares: no entry goes to a lower slot than its place, and no two to one -/
theorem aTg_ge {n p : Nat} (hn : n ≤ 32) : p ≤ aTg n p := by
  unfold aTg
  split
  · exact Nat.le_refl _
  · rename_i q
    rw [Nat.le_div_iff_mul_le (by omega), Nat.mul_comm]
    exact Nat.mul_le_mul_right _ hn
theorem aTg_lt2 {n p q : Nat} (hn : n ≤ 32) (h : p < q) : aTg n p < aTg n q := by
  unfold aTg
  split
  · exact h
  · rename_i z
    have e1 : 32 * p / n + 1 = (32 * p + n) / n := by rw [Nat.add_div_right _ (by omega)]
    have : (32 * p + n) / n ≤ 32 * q / n := Nat.div_le_div_right (by omega)
    omega
theorem k_moveIntoShares (U : xP) (M : xM) {n : Nat} (hn : n ≤ 32) (hc : aCnt (cA M 16) ≤ n) : xMetV U mX1_moveIntoShares [.inr 16, .inl (nI n)] M (fun M' => ∃ B, isSp (cA M 16) n B ∧ mSt M M' B (M 16)) := by
  refine xMetV.of (L := [some (.inr 16), some (.inl (nI n)), none, none]) fX1_moveIntoShares rfl rfl (Nat.le_of_ble_eq_true rfl) (fun G hN hO hR => ?_)
  have hN : G.2.2.2.2.2.2.2.2.2.2.1 = 4 := hN
  have hO : xOK U G RX1 cX1_moveIntoShares 3 := hO
  have hm : aCnt (cA M 16) ≤ 32 := aCnt_le _
  refine x_aload_n hO dX1_moveIntoShares_0 rfl rfl ?_
  refine x_callV hO (k_moveToFront U M) dX1_moveIntoShares_1 lkX1_108 fX1_moveToFront vX1_moveToFront (by decide) rfl rfl rfl rfl rfl (by decide) (Nat.le_of_ble_eq_true rfl) (fun r M' h1 => ?_)
  obtain ⟨rfl, h1⟩ := h1
  refine x_istore_n (n := 4) hO dX1_moveIntoShares_4 rfl rfl (by decide) hN ?_
  refine x_iload_n hO dX1_moveIntoShares_5 rfl rfl ?_
  refine x_iconst (v := nI 1) hO dX1_moveIntoShares_6 rfl ?_
  refine x_isub hO dX1_moveIntoShares_7 ?_
  have e0 : nI (aCnt (cA M 16)) - nI 1 = xm (aCnt (cA M 16)) := by
    cases aCnt (cA M 16) with
    | zero => rfl
    | succ j => exact nI_sub1 j
  rw [e0]
  refine x_istore_n (n := 4) hO dX1_moveIntoShares_8 rfl rfl (by decide) hN ?_
  have hF : aFr (cA M 16) 32 = fun s => if s < aCnt (cA M 16) then cA M 16 (kth (cA M 16) s) else eR := by
    funext s
    unfold aFr aCnt
    split
    · rfl
    · split
      · rfl
      · rw [cA_ge (by omega)]
  rw [hF] at h1
  generalize cA M 16 = A at *
  generalize hmm : aCnt A = m at *
  have loop : ∀ k, k ≤ m → ∀ (B : aR) (M1 : xM), mSt M M1 B (M 16) → (∀ p, k ≤ p → p < m → B (aTg n p) = A (kth A p)) → (∀ s, s < k → B s = A (kth A s)) → (∀ s, k ≤ s → (∀ p, k ≤ p → p < m → aTg n p ≠ s) → B s = eR) → XW U G 9 [some (.inr 16), some (.inl (nI n)), some (.inl (nI m)), some (.inl (xm k))] [] M1 := by
    intro k
    induction k with
    | zero =>
      intro _ B M1 h1 b1 b2 b3
      refine x_iload_n hO dX1_moveIntoShares_9 rfl rfl ?_
      refine x_if_lt (tgt := 29) hO dX1_moveIntoShares_10 (by decide) (fun c => ?_) (fun c => ?_)
      · refine x_vret hO hR dX1_moveIntoShares_29 ?_
        exact ⟨B, ⟨fun p hp => b1 p (Nat.zero_le _) (by rw [hmm] at hp; exact hp), fun s hs => b3 s (Nat.zero_le _) (fun p _ hp => hs p (by rw [hmm]; exact hp))⟩, h1⟩
      · exact absurd (by decide) c
    | succ k ih =>
      intro hk B M1 h1 b1 b2 b3
      have hk32 : k < 32 := by omega
      have ht : aTg n k < 32 := aTg_lt (by omega)
      have hge := aTg_ge (p := k) hn
      refine x_iload_n hO dX1_moveIntoShares_9 rfl rfl ?_
      refine x_if_lt (tgt := 29) hO dX1_moveIntoShares_10 (by decide) (fun c => ?_) (fun c => ?_)
      · exact absurd c (nI_pos (by omega))
      · refine x_aload_n hO dX1_moveIntoShares_13 rfl rfl ?_
        refine x_iload_n hO dX1_moveIntoShares_14 rfl rfl ?_
        refine x_iload_n hO dX1_moveIntoShares_15 rfl rfl ?_
        refine x_iload_n hO dX1_moveIntoShares_16 rfl rfl ?_
        refine x_callS1 hO (k_firstSlotOfShare U M1 (p := k) (by omega) hn) dX1_moveIntoShares_17 lkX1_105 fX1_firstSlotOfShare sX1_firstSlotOfShare rfl rfl (by decide) (Nat.le_of_ble_eq_true rfl) ?_
        refine x_callVv hO (k_moveEntry U M1 (i := k) (j := aTg n k) hk32 ht) dX1_moveIntoShares_20 lkX1_102 fX1_moveEntry vX1_moveEntry (by decide) rfl rfl rfl rfl rfl (by decide) (Nat.le_of_ble_eq_true rfl) (fun M' h2 => ?_)
        have h3 := mSt.tr h1 h2
        rw [h1.1, h1.2.1] at h3
        refine x_iinc hO dX1_moveIntoShares_23 rfl (xm_dec k) rfl hN ?_
        refine x_goto (tgt := 9) hO dX1_moveIntoShares_26 (by decide) ?_
        refine ih (by omega) _ M' h3 (fun p hp hpm => ?_) (fun s hs => ?_) (fun s hs hs2 => ?_)
        · unfold aMv
          by_cases q : p = k
          · subst q
            split
            · rename_i z
              rw [← z]
              exact b2 p (by omega)
            · rename_i z
              rw [if_neg (fun y => z y.symm), if_pos rfl]
              exact b2 p (by omega)
          · have l1 := aTg_lt2 (p := k) (q := p) hn (by omega)
            have l2 := aTg_ge (p := p) hn
            split
            · exact b1 p (by omega) hpm
            · rw [if_neg (by omega), if_neg (by omega)]
              exact b1 p (by omega) hpm
        · unfold aMv
          split
          · exact b2 s (by omega)
          · rw [if_neg (by omega), if_neg (by omega)]
            exact b2 s (by omega)
        · unfold aMv
          have n1 := hs2 k (Nat.le_refl _) (by omega)
          by_cases q : s = k
          · subst q
            rw [if_neg (fun z => n1 z.symm), if_pos rfl]
          · have b4 : B s = eR := b3 s (by omega) (fun p hp hpm => hs2 p (by omega) hpm)
            split
            · exact b4
            · first | rw [if_neg q, if_neg (fun z => n1 z.symm)] | rw [if_neg (fun z => n1 z.symm)]
              exact b4
  refine loop m (Nat.le_refl _) _ M' h1 (fun p h1 h2 => by omega) (fun s hs => by rw [if_pos hs]) (fun s hs _ => by rw [if_neg (by omega)])
/-! ===== Memory.countSearch ===== -/
def aHt (A : aR) (r : Int32) : aR := fun s w => if w = 6 ∧ A s 0 = r ∧ A s 1 = 0 then A s 6 + nI 1 else A s w
def hitM (M : xM) (r : Int32) (i : Nat) : xM := fun k s => if k = 23 ∧ s < i ∧ M 17 s = r then M 23 s + nI 1 else M k s
theorem hitM_s {M : xM} {r : Int32} {i : Nat} (h : M 17 i = r) : xset (hitM M r i) 23 i (M 23 i + nI 1) = hitM M r (i + 1) := by
  funext k s
  rw [xset_at]
  unfold hitM
  by_cases q : k = 23
  · subst q
    by_cases q2 : s = i
    · subst q2
      simp [h]
    · have : s < i + 1 ↔ s < i := by omega
      simp [this, q2]
  · simp [q]
theorem hitM_f {M : xM} {r : Int32} {i : Nat} (h : M 17 i ≠ r) : hitM M r (i + 1) = hitM M r i := by
  funext k s
  unfold hitM
  by_cases q : s = i
  · subst q
    rw [if_neg (fun z => h z.2.2), if_neg (fun z => by omega)]
  · have : s < i + 1 ↔ s < i := by omega
    simp only [this]
theorem hitM_A {M : xM} {r : Int32} (hr : r ≠ -1) : cA (hitM M r 32) 16 = aHt (cA M 16) r := by
  funext s w
  rcases Nat.lt_or_ge s 32 with hs | hs
  · by_cases ho : M 17 s = -1
    · have e1 : hitM M r 32 17 s = -1 := by simp [hitM, ho]
      rw [cA_free (M := hitM M r 32) e1]
      unfold aHt
      rw [cA_free (M := M) ho, if_neg]
      rintro ⟨-, h, -⟩
      exact hr h.symm
    · have o1 : occ M 16 s = true := by simp [occ, hs, ho]
      have o2 : occ (hitM M r 32) 16 s = true := by simp [occ, hitM, hs, ho]
      unfold aHt cA
      rw [o1, o2]
      simp only [if_true, hitM]
      by_cases q : w = 6
      · subst q
        by_cases q1 : M 18 s = 0
        · by_cases q2 : M 17 s = r
          · simp [q1, q2, hs]
          · simp [q1, q2]
        · simp [q1]
      · by_cases q3 : w < 6
        · have : ¬ 17 + w = 23 := by omega
          simp [q, q3, this]
        · simp [q, q3]
  · have e0 := cA_ge (M := hitM M r 32) (b := 16) hs
    rw [e0]
    unfold aHt
    rw [cA_ge (M := M) hs, if_neg]
    rintro ⟨-, h, -⟩
    exact hr h.symm
theorem k_countSearch (U : xP) (M : xM) (x : Int32) {j : Nat} (hj : j < 32) (ho : aoc (cA M 16) j = true) : xMetV U mX1_countSearch [.inr 16, .inl x, .inl (nI j)] M (fun M' => mSt M M' (aHt (cA M 16) (cA M 16 j 0)) (upd (upd (M 16) 10 (M 16 10 + nI 1)) 11 (M 16 11 + nI (aPw (cA M 16) x 4)))) := by
  refine xMetV.of (L := [some (.inr 16), some (.inl x), some (.inl (nI j)), none, none]) fX1_countSearch rfl rfl (Nat.le_of_ble_eq_true rfl) (fun G hN hO hR => ?_)
  have hN : G.2.2.2.2.2.2.2.2.2.2.1 = 5 := hN
  have hO : xOK U G RX1 cX1_countSearch 5 := hO
  have e0 : M 17 j = cA M 16 j 0 := cA_in (w := 0) ho (by decide)
  have hr : cA M 16 j 0 ≠ -1 := by intro z; simp [aoc, z] at ho
  refine x_aload_n hO dX1_countSearch_0 rfl rfl ?_
  refine x_iload_n hO dX1_countSearch_1 rfl rfl ?_
  refine x_callV1 hO (k_holds M hj) dX1_countSearch_2 lkX1_53 fX1_holdsEntry vX1_holdsEntry (by decide) rfl rfl rfl rfl rfl (by decide) (Nat.le_of_ble_eq_true rfl) ?_
  rw [ho]
  refine x_if_ne (tgt := 9) hO dX1_countSearch_5 (by decide) (fun c => ?_) (fun c => ?_)
  · refine x_aload_n hO dX1_countSearch_9 rfl rfl ?_
    refine x_dup hO dX1_countSearch_10 ?_
    refine x_getI (T := TX1) (j := 10) hO dX1_countSearch_11 flX1_43 (by decide) rfl rfl (by decide) rfl rfl ?_
    refine x_iconst (v := nI 1) hO dX1_countSearch_14 rfl ?_
    refine x_iadd hO dX1_countSearch_15 ?_
    refine x_put (T := TX1) (j := 10) (ty := .int) hO dX1_countSearch_16 flX1_43 (by decide) rfl rfl (by decide) rfl rfl rfl (by decide +kernel) rfl rfl ?_
    have h1 := mSt.num (M := M) 10 (by decide) (M 16 10 + nI 1)
    generalize xset M 16 10 (M 16 10 + nI 1) = M1 at h1 ⊢
    have e11 : M1 16 11 = M 16 11 := by rw [h1.2.1]; rfl
    refine x_aload_n hO dX1_countSearch_19 rfl rfl ?_
    refine x_dup hO dX1_countSearch_20 ?_
    refine x_getI (T := TX1) (j := 11) hO dX1_countSearch_21 flX1_46 (by decide) rfl rfl (by decide) rfl rfl ?_
    refine x_aload_n hO dX1_countSearch_24 rfl rfl ?_
    refine x_iload_n hO dX1_countSearch_25 rfl rfl ?_
    refine x_callV1 hO (k_powerFor U M1 x) dX1_countSearch_26 lkX1_119 fX1_powerFor vX1_powerFor (by decide) rfl rfl rfl rfl rfl (by decide) (Nat.le_of_ble_eq_true rfl) ?_
    rw [h1.1, e11]
    refine x_iadd hO dX1_countSearch_29 ?_
    refine x_put (T := TX1) (j := 11) (ty := .int) hO dX1_countSearch_30 flX1_46 (by decide) rfl rfl (by decide) rfl rfl rfl (by decide +kernel) rfl rfl ?_
    have h2 := mSt.tr h1 (mSt.num (M := M1) 11 (by decide) (M 16 11 + nI (aPw (cA M 16) x 4)))
    rw [h1.1, h1.2.1] at h2
    generalize xset M1 16 11 (M 16 11 + nI (aPw (cA M 16) x 4)) = M2 at h2 ⊢
    have ej : M2 17 j = cA M 16 j 0 := by
      rw [← h2.1] at ho
      have := cA_in (M := M2) (b := 16) (w := 0) ho (by decide)
      rw [h2.1] at this
      exact this
    refine x_aload_n hO dX1_countSearch_33 rfl rfl ?_
    refine x_getR (T := TX1) (j := 0) hO dX1_countSearch_34 flX1_9 (by decide) rfl rfl (by decide) rfl rfl ?_
    refine x_iload_n hO dX1_countSearch_37 rfl rfl ?_
    refine x_iald hO (by decide) rfl (by decide) (rfl) (hj) dX1_countSearch_38 ?_
    refine x_istore_n (n := 5) hO dX1_countSearch_39 rfl rfl (by decide) hN ?_
    refine x_iconst (v := nI 0) hO dX1_countSearch_40 rfl ?_
    refine x_istore (n := 5) hO dX1_countSearch_41 rfl (by decide) hN ?_
    rw [ej]
    generalize cA M 16 j 0 = r at *
    have hz : hitM M2 r 0 = M2 := by funext k s; simp [hitM]
    have lp := upd_ind (P := fun i _ => XW U G 43 [some (.inr 16), some (.inl x), some (.inl (nI j)), some (.inl r), some (.inl (nI i))] [] (hitM M2 r i)) 32 ?_ ?_ 32 0 rfl
    · rw [hz] at lp
      exact lp
    · refine x_iload hO dX1_countSearch_43 rfl ?_
      refine x_bipush (v := nI 32) hO dX1_countSearch_45 rfl ?_
      refine x_icmp_ge (tgt := 78) hO dX1_countSearch_47 (by decide) (fun c1 => ?_) (fun c1 => ?_)
      · refine x_vret hO hR dX1_countSearch_78 ?_
        refine ⟨by rw [hitM_A hr, h2.1], ?_, fun k hk => ?_⟩
        · rw [← h2.2.1]
          funext a
          simp [hitM]
        · rw [← h2.2.2 k hk]
          funext a
          have : ¬ k = 23 := by omega
          simp [hitM, this]
      · exact absurd (Int32.le_refl _) c1
    · intro i d hd ih
      have hi : i < 32 := by omega
      have e17 : hitM M2 r i 17 i = M2 17 i := by simp [hitM]
      have e23 : hitM M2 r i 23 i = M2 23 i := by simp [hitM]
      refine x_iload hO dX1_countSearch_43 rfl ?_
      refine x_bipush (v := nI 32) hO dX1_countSearch_45 rfl ?_
      refine x_icmp_ge (tgt := 78) hO dX1_countSearch_47 (by decide) (fun c1 => ?_) (fun c1 => ?_)
      · exact absurd c1 (nI_ge hi (by decide))
      · refine x_aload_n hO dX1_countSearch_50 rfl rfl ?_
        refine x_getR (T := TX1) (j := 0) hO dX1_countSearch_51 flX1_9 (by decide) rfl rfl (by decide) rfl rfl ?_
        refine x_iload hO dX1_countSearch_54 rfl ?_
        refine x_iald hO (by decide) rfl (by decide) (rfl) (hi) dX1_countSearch_56 ?_
        refine x_iload_n hO dX1_countSearch_57 rfl rfl ?_
        rw [e17]
        refine x_icmp_ne (tgt := 72) hO dX1_countSearch_58 (by decide) (fun c2 => ?_) (fun c2 => ?_)
        · rw [hitM_f c2] at ih
          refine x_iinc hO dX1_countSearch_72 rfl (by first | exact xinc_n _ | rfl) rfl hN ?_
          refine x_goto (tgt := 43) hO dX1_countSearch_75 (by decide) ?_
          exact ih
        · refine x_aload_n hO dX1_countSearch_61 rfl rfl ?_
          refine x_getR (T := TX1) (j := 6) hO dX1_countSearch_62 flX1_30 (by decide) rfl rfl (by decide) rfl rfl ?_
          refine x_iload hO dX1_countSearch_65 rfl ?_
          refine x_dup2 hO dX1_countSearch_67 ?_
          refine x_iald hO (by decide) rfl (by decide) (rfl) (hi) dX1_countSearch_68 ?_
          rw [e23]
          refine x_iconst (v := nI 1) hO dX1_countSearch_69 rfl ?_
          refine x_iadd hO dX1_countSearch_70 ?_
          refine x_iast hO (by decide) rfl (by decide) (rfl) (hi) dX1_countSearch_71 ?_
          rw [hitM_s c2]
          refine x_iinc hO dX1_countSearch_72 rfl (by first | exact xinc_n _ | rfl) rfl hN ?_
          refine x_goto (tgt := 43) hO dX1_countSearch_75 (by decide) ?_
          exact ih
  · exact absurd c (by decide)
end
section
/-! ===== Memory.copyFrom: the memory at p becomes as the one at q ===== -/
def cpSt (M M' : xM) (p q : Nat) : Prop := cA M' p = cA M q ∧ (∀ j, 7 ≤ j → j < 12 → M' p j = M q j) ∧ ∀ k, (k < p ∨ p + 8 ≤ k) → M' k = M k
def cpR (M M1 : xM) (p q i : Nat) : Prop := (∀ w, w < 7 → ∀ s, s < i → M1 (p + 1 + w) s = M (q + 1 + w) s) ∧ ∀ k, ¬ (p + 1 ≤ k ∧ k ≤ p + 7) → M1 k = M k
theorem cpR_s {M M1 M2 : xM} {p q i : Nat} (h : cpR M M1 p q i) (h1 : ∀ w, w < 7 → M2 (p + 1 + w) i = M (q + 1 + w) i) (h2 : ∀ w, w < 7 → ∀ s, s ≠ i → M2 (p + 1 + w) s = M1 (p + 1 + w) s) (h3 : ∀ k, ¬ (p + 1 ≤ k ∧ k ≤ p + 7) → M2 k = M1 k) : cpR M M2 p q (i + 1) := by
  refine ⟨fun w hw s hs => ?_, fun k hk => by rw [h3 k hk, h.2 k hk]⟩
  by_cases e : s = i
  · subst e; exact h1 w hw
  · rw [h2 w hw s e]
    exact h.1 w hw s (by omega)
theorem all5 {P : Nat → Prop} (h0 : P 7) (h1 : P 8) (h2 : P 9) (h3 : P 10) (h4 : P 11) : ∀ w, 7 ≤ w → w < 12 → P w := by
  intro w h h2
  obtain rfl | rfl | rfl | rfl | rfl : w = 7 ∨ w = 8 ∨ w = 9 ∨ w = 10 ∨ w = 11 := by omega
  all_goals assumption
theorem all7k {p : Nat} {P : Nat → Prop} (h : ∀ w, w < 7 → P (p + 1 + w)) : ∀ k, p + 1 ≤ k ∧ k ≤ p + 7 → P k := by
  intro k hk
  have := h (k - p - 1) (by omega)
  rwa [show p + 1 + (k - p - 1) = k by omega] at this
theorem k_copyFrom_16_24 (U : xP) (M : xM) : xMetV U mX1_copyFrom [.inr 16, .inr 24] M (fun M' => cpSt M M' 16 24) := by
  refine xMetV.of (L := [some (.inr 16), some (.inr 24), none]) fX1_copyFrom rfl rfl (Nat.le_of_ble_eq_true rfl) (fun G hN hO hR => ?_)
  have hN : G.2.2.2.2.2.2.2.2.2.2.1 = 3 := hN
  have hO : xOK U G RX1 cX1_copyFrom 0 := hO
  refine x_iconst (v := nI 0) hO dX1_copyFrom_0 rfl ?_
  refine x_istore_n (n := 3) hO dX1_copyFrom_1 rfl rfl (by decide) hN ?_
  refine upd_ind (P := fun i _ => ∀ M1, cpR M M1 16 24 i → XW U G 2 [some (.inr 16), some (.inr 24), some (.inl (nI i))] [] M1) 32 ?_ ?_ 32 0 rfl M ⟨fun w _ s hs => by omega, fun k _ => rfl⟩
  · intro M1 h1
    refine x_iload_n hO dX1_copyFrom_2 rfl rfl ?_
    refine x_bipush (v := nI 32) hO dX1_copyFrom_3 rfl ?_
    refine x_icmp_ge (tgt := 98) hO dX1_copyFrom_5 (by decide) (fun c => ?_) (fun c => ?_)
    · refine x_aload_n hO dX1_copyFrom_98 rfl rfl ?_
      refine x_aload_n hO dX1_copyFrom_99 rfl rfl ?_
      refine x_getI (T := TX1) (j := 7) hO dX1_copyFrom_100 flX1_33 (by decide) rfl rfl (by decide) rfl rfl ?_
      refine x_put (T := TX1) (j := 7) (ty := .int) hO dX1_copyFrom_103 flX1_33 (by decide) rfl rfl (by decide) rfl rfl rfl (by decide +kernel) rfl rfl ?_
      refine x_aload_n hO dX1_copyFrom_106 rfl rfl ?_
      refine x_aload_n hO dX1_copyFrom_107 rfl rfl ?_
      refine x_getI (T := TX1) (j := 8) hO dX1_copyFrom_108 flX1_37 (by decide) rfl rfl (by decide) rfl rfl ?_
      refine x_put (T := TX1) (j := 8) (ty := .int) hO dX1_copyFrom_111 flX1_37 (by decide) rfl rfl (by decide) rfl rfl rfl (by decide +kernel) rfl rfl ?_
      refine x_aload_n hO dX1_copyFrom_114 rfl rfl ?_
      refine x_aload_n hO dX1_copyFrom_115 rfl rfl ?_
      refine x_getI (T := TX1) (j := 9) hO dX1_copyFrom_116 flX1_40 (by decide) rfl rfl (by decide) rfl rfl ?_
      refine x_put (T := TX1) (j := 9) (ty := .int) hO dX1_copyFrom_119 flX1_40 (by decide) rfl rfl (by decide) rfl rfl rfl (by decide +kernel) rfl rfl ?_
      refine x_aload_n hO dX1_copyFrom_122 rfl rfl ?_
      refine x_aload_n hO dX1_copyFrom_123 rfl rfl ?_
      refine x_getI (T := TX1) (j := 10) hO dX1_copyFrom_124 flX1_43 (by decide) rfl rfl (by decide) rfl rfl ?_
      refine x_put (T := TX1) (j := 10) (ty := .int) hO dX1_copyFrom_127 flX1_43 (by decide) rfl rfl (by decide) rfl rfl rfl (by decide +kernel) rfl rfl ?_
      refine x_aload_n hO dX1_copyFrom_130 rfl rfl ?_
      refine x_aload_n hO dX1_copyFrom_131 rfl rfl ?_
      refine x_getI (T := TX1) (j := 11) hO dX1_copyFrom_132 flX1_46 (by decide) rfl rfl (by decide) rfl rfl ?_
      refine x_put (T := TX1) (j := 11) (ty := .int) hO dX1_copyFrom_135 flX1_46 (by decide) rfl rfl (by decide) rfl rfl rfl (by decide +kernel) rfl rfl ?_
      refine x_vret hO hR dX1_copyFrom_138 ?_
      have gp : M1 16 = M 16 := h1.2 _ (by omega)
      have gq : M1 24 = M 24 := h1.2 _ (by omega)
      refine ⟨cA_ext (fun s hs => ?_) (fun s hs => cA_ge hs), all5 ?_ ?_ ?_ ?_ ?_, fun k hk => ?_⟩
      · refine cA_row hs hs (fun w hw => ?_)
        have e := h1.1 w hw s hs
        have n0 : ¬ 16 + 1 + w = 16 := by omega
        simp only [xset_at, n0, if_false]
        exact e
      · simp [xset_at, gp, gq]
      · simp [xset_at, gp, gq]
      · simp [xset_at, gp, gq]
      · simp [xset_at, gp, gq]
      · simp [xset_at, gp, gq]
      · have n0 : ¬ k = 16 := by omega
        funext a
        simp only [xset_at, n0, if_false]
        rw [h1.2 k (by omega)]
    · exact absurd (Int32.le_refl _) c
  · intro i d hd ih M1 h1
    have hi : i < 32 := by omega
    have g25 : M1 25 = M 25 := h1.2 _ (by omega)
    have g26 : M1 26 = M 26 := h1.2 _ (by omega)
    have g27 : M1 27 = M 27 := h1.2 _ (by omega)
    have g28 : M1 28 = M 28 := h1.2 _ (by omega)
    have g29 : M1 29 = M 29 := h1.2 _ (by omega)
    have g30 : M1 30 = M 30 := h1.2 _ (by omega)
    have g31 : M1 31 = M 31 := h1.2 _ (by omega)
    refine x_iload_n hO dX1_copyFrom_2 rfl rfl ?_
    refine x_bipush (v := nI 32) hO dX1_copyFrom_3 rfl ?_
    refine x_icmp_ge (tgt := 98) hO dX1_copyFrom_5 (by decide) (fun c => ?_) (fun c => ?_)
    · exact absurd c (nI_ge hi (by decide))
    · refine x_aload_n hO dX1_copyFrom_8 rfl rfl ?_
      refine x_getR (T := TX1) (j := 0) hO dX1_copyFrom_9 flX1_9 (by decide) rfl rfl (by decide) rfl rfl ?_
      refine x_iload_n hO dX1_copyFrom_12 rfl rfl ?_
      refine x_aload_n hO dX1_copyFrom_13 rfl rfl ?_
      refine x_getR (T := TX1) (j := 0) hO dX1_copyFrom_14 flX1_9 (by decide) rfl rfl (by decide) rfl rfl ?_
      refine x_iload_n hO dX1_copyFrom_17 rfl rfl ?_
      refine x_iald hO (by decide) rfl (by decide) (rfl) (hi) dX1_copyFrom_18 ?_
      refine x_iast hO (by decide) rfl (by decide) (rfl) (hi) dX1_copyFrom_19 ?_
      refine x_aload_n hO dX1_copyFrom_20 rfl rfl ?_
      refine x_getR (T := TX1) (j := 1) hO dX1_copyFrom_21 flX1_15 (by decide) rfl rfl (by decide) rfl rfl ?_
      refine x_iload_n hO dX1_copyFrom_24 rfl rfl ?_
      refine x_aload_n hO dX1_copyFrom_25 rfl rfl ?_
      refine x_getR (T := TX1) (j := 1) hO dX1_copyFrom_26 flX1_15 (by decide) rfl rfl (by decide) rfl rfl ?_
      refine x_iload_n hO dX1_copyFrom_29 rfl rfl ?_
      refine x_iald hO (by decide) rfl (by decide) (rfl) (hi) dX1_copyFrom_30 ?_
      refine x_iast hO (by decide) rfl (by decide) (rfl) (hi) dX1_copyFrom_31 ?_
      refine x_aload_n hO dX1_copyFrom_32 rfl rfl ?_
      refine x_getR (T := TX1) (j := 2) hO dX1_copyFrom_33 flX1_18 (by decide) rfl rfl (by decide) rfl rfl ?_
      refine x_iload_n hO dX1_copyFrom_36 rfl rfl ?_
      refine x_aload_n hO dX1_copyFrom_37 rfl rfl ?_
      refine x_getR (T := TX1) (j := 2) hO dX1_copyFrom_38 flX1_18 (by decide) rfl rfl (by decide) rfl rfl ?_
      refine x_iload_n hO dX1_copyFrom_41 rfl rfl ?_
      refine x_iald hO (by decide) rfl (by decide) (rfl) (hi) dX1_copyFrom_42 ?_
      refine x_iast hO (by decide) rfl (by decide) (rfl) (hi) dX1_copyFrom_43 ?_
      refine x_aload_n hO dX1_copyFrom_44 rfl rfl ?_
      refine x_getR (T := TX1) (j := 3) hO dX1_copyFrom_45 flX1_21 (by decide) rfl rfl (by decide) rfl rfl ?_
      refine x_iload_n hO dX1_copyFrom_48 rfl rfl ?_
      refine x_aload_n hO dX1_copyFrom_49 rfl rfl ?_
      refine x_getR (T := TX1) (j := 3) hO dX1_copyFrom_50 flX1_21 (by decide) rfl rfl (by decide) rfl rfl ?_
      refine x_iload_n hO dX1_copyFrom_53 rfl rfl ?_
      refine x_iald hO (by decide) rfl (by decide) (rfl) (hi) dX1_copyFrom_54 ?_
      refine x_iast hO (by decide) rfl (by decide) (rfl) (hi) dX1_copyFrom_55 ?_
      refine x_aload_n hO dX1_copyFrom_56 rfl rfl ?_
      refine x_getR (T := TX1) (j := 4) hO dX1_copyFrom_57 flX1_24 (by decide) rfl rfl (by decide) rfl rfl ?_
      refine x_iload_n hO dX1_copyFrom_60 rfl rfl ?_
      refine x_aload_n hO dX1_copyFrom_61 rfl rfl ?_
      refine x_getR (T := TX1) (j := 4) hO dX1_copyFrom_62 flX1_24 (by decide) rfl rfl (by decide) rfl rfl ?_
      refine x_iload_n hO dX1_copyFrom_65 rfl rfl ?_
      refine x_iald hO (by decide) rfl (by decide) (rfl) (hi) dX1_copyFrom_66 ?_
      refine x_iast hO (by decide) rfl (by decide) (rfl) (hi) dX1_copyFrom_67 ?_
      refine x_aload_n hO dX1_copyFrom_68 rfl rfl ?_
      refine x_getR (T := TX1) (j := 5) hO dX1_copyFrom_69 flX1_27 (by decide) rfl rfl (by decide) rfl rfl ?_
      refine x_iload_n hO dX1_copyFrom_72 rfl rfl ?_
      refine x_aload_n hO dX1_copyFrom_73 rfl rfl ?_
      refine x_getR (T := TX1) (j := 5) hO dX1_copyFrom_74 flX1_27 (by decide) rfl rfl (by decide) rfl rfl ?_
      refine x_iload_n hO dX1_copyFrom_77 rfl rfl ?_
      refine x_iald hO (by decide) rfl (by decide) (rfl) (hi) dX1_copyFrom_78 ?_
      refine x_iast hO (by decide) rfl (by decide) (rfl) (hi) dX1_copyFrom_79 ?_
      refine x_aload_n hO dX1_copyFrom_80 rfl rfl ?_
      refine x_getR (T := TX1) (j := 6) hO dX1_copyFrom_81 flX1_30 (by decide) rfl rfl (by decide) rfl rfl ?_
      refine x_iload_n hO dX1_copyFrom_84 rfl rfl ?_
      refine x_aload_n hO dX1_copyFrom_85 rfl rfl ?_
      refine x_getR (T := TX1) (j := 6) hO dX1_copyFrom_86 flX1_30 (by decide) rfl rfl (by decide) rfl rfl ?_
      refine x_iload_n hO dX1_copyFrom_89 rfl rfl ?_
      refine x_iald hO (by decide) rfl (by decide) (rfl) (hi) dX1_copyFrom_90 ?_
      refine x_iast hO (by decide) rfl (by decide) (rfl) (hi) dX1_copyFrom_91 ?_
      refine x_iinc hO dX1_copyFrom_92 rfl (by first | exact xinc_n _ | rfl) rfl hN ?_
      refine x_goto (tgt := 2) hO dX1_copyFrom_95 (by decide) ?_
      refine ih _ (cpR_s h1 (all7 ?_ ?_ ?_ ?_ ?_ ?_ ?_) (all7 ?_ ?_ ?_ ?_ ?_ ?_ ?_) (fun k hk => ?_))
      all_goals first
        | (simp [xset_at, g25, g26, g27, g28, g29, g30, g31]; done)
        | (intro s hs; simp [xset_at, hs]; done)
        | skip
      have h17 : ¬ k = 17 := by omega
      have h18 : ¬ k = 18 := by omega
      have h19 : ¬ k = 19 := by omega
      have h20 : ¬ k = 20 := by omega
      have h21 : ¬ k = 21 := by omega
      have h22 : ¬ k = 22 := by omega
      have h23 : ¬ k = 23 := by omega
      funext a
      simp [xset_at, h17, h18, h19, h20, h21, h22, h23]
theorem k_copyFrom_16_32 (U : xP) (M : xM) : xMetV U mX1_copyFrom [.inr 16, .inr 32] M (fun M' => cpSt M M' 16 32) := by
  refine xMetV.of (L := [some (.inr 16), some (.inr 32), none]) fX1_copyFrom rfl rfl (Nat.le_of_ble_eq_true rfl) (fun G hN hO hR => ?_)
  have hN : G.2.2.2.2.2.2.2.2.2.2.1 = 3 := hN
  have hO : xOK U G RX1 cX1_copyFrom 0 := hO
  refine x_iconst (v := nI 0) hO dX1_copyFrom_0 rfl ?_
  refine x_istore_n (n := 3) hO dX1_copyFrom_1 rfl rfl (by decide) hN ?_
  refine upd_ind (P := fun i _ => ∀ M1, cpR M M1 16 32 i → XW U G 2 [some (.inr 16), some (.inr 32), some (.inl (nI i))] [] M1) 32 ?_ ?_ 32 0 rfl M ⟨fun w _ s hs => by omega, fun k _ => rfl⟩
  · intro M1 h1
    refine x_iload_n hO dX1_copyFrom_2 rfl rfl ?_
    refine x_bipush (v := nI 32) hO dX1_copyFrom_3 rfl ?_
    refine x_icmp_ge (tgt := 98) hO dX1_copyFrom_5 (by decide) (fun c => ?_) (fun c => ?_)
    · refine x_aload_n hO dX1_copyFrom_98 rfl rfl ?_
      refine x_aload_n hO dX1_copyFrom_99 rfl rfl ?_
      refine x_getI (T := TX1) (j := 7) hO dX1_copyFrom_100 flX1_33 (by decide) rfl rfl (by decide) rfl rfl ?_
      refine x_put (T := TX1) (j := 7) (ty := .int) hO dX1_copyFrom_103 flX1_33 (by decide) rfl rfl (by decide) rfl rfl rfl (by decide +kernel) rfl rfl ?_
      refine x_aload_n hO dX1_copyFrom_106 rfl rfl ?_
      refine x_aload_n hO dX1_copyFrom_107 rfl rfl ?_
      refine x_getI (T := TX1) (j := 8) hO dX1_copyFrom_108 flX1_37 (by decide) rfl rfl (by decide) rfl rfl ?_
      refine x_put (T := TX1) (j := 8) (ty := .int) hO dX1_copyFrom_111 flX1_37 (by decide) rfl rfl (by decide) rfl rfl rfl (by decide +kernel) rfl rfl ?_
      refine x_aload_n hO dX1_copyFrom_114 rfl rfl ?_
      refine x_aload_n hO dX1_copyFrom_115 rfl rfl ?_
      refine x_getI (T := TX1) (j := 9) hO dX1_copyFrom_116 flX1_40 (by decide) rfl rfl (by decide) rfl rfl ?_
      refine x_put (T := TX1) (j := 9) (ty := .int) hO dX1_copyFrom_119 flX1_40 (by decide) rfl rfl (by decide) rfl rfl rfl (by decide +kernel) rfl rfl ?_
      refine x_aload_n hO dX1_copyFrom_122 rfl rfl ?_
      refine x_aload_n hO dX1_copyFrom_123 rfl rfl ?_
      refine x_getI (T := TX1) (j := 10) hO dX1_copyFrom_124 flX1_43 (by decide) rfl rfl (by decide) rfl rfl ?_
      refine x_put (T := TX1) (j := 10) (ty := .int) hO dX1_copyFrom_127 flX1_43 (by decide) rfl rfl (by decide) rfl rfl rfl (by decide +kernel) rfl rfl ?_
      refine x_aload_n hO dX1_copyFrom_130 rfl rfl ?_
      refine x_aload_n hO dX1_copyFrom_131 rfl rfl ?_
      refine x_getI (T := TX1) (j := 11) hO dX1_copyFrom_132 flX1_46 (by decide) rfl rfl (by decide) rfl rfl ?_
      refine x_put (T := TX1) (j := 11) (ty := .int) hO dX1_copyFrom_135 flX1_46 (by decide) rfl rfl (by decide) rfl rfl rfl (by decide +kernel) rfl rfl ?_
      refine x_vret hO hR dX1_copyFrom_138 ?_
      have gp : M1 16 = M 16 := h1.2 _ (by omega)
      have gq : M1 32 = M 32 := h1.2 _ (by omega)
      refine ⟨cA_ext (fun s hs => ?_) (fun s hs => cA_ge hs), all5 ?_ ?_ ?_ ?_ ?_, fun k hk => ?_⟩
      · refine cA_row hs hs (fun w hw => ?_)
        have e := h1.1 w hw s hs
        have n0 : ¬ 16 + 1 + w = 16 := by omega
        simp only [xset_at, n0, if_false]
        exact e
      · simp [xset_at, gp, gq]
      · simp [xset_at, gp, gq]
      · simp [xset_at, gp, gq]
      · simp [xset_at, gp, gq]
      · simp [xset_at, gp, gq]
      · have n0 : ¬ k = 16 := by omega
        funext a
        simp only [xset_at, n0, if_false]
        rw [h1.2 k (by omega)]
    · exact absurd (Int32.le_refl _) c
  · intro i d hd ih M1 h1
    have hi : i < 32 := by omega
    have g33 : M1 33 = M 33 := h1.2 _ (by omega)
    have g34 : M1 34 = M 34 := h1.2 _ (by omega)
    have g35 : M1 35 = M 35 := h1.2 _ (by omega)
    have g36 : M1 36 = M 36 := h1.2 _ (by omega)
    have g37 : M1 37 = M 37 := h1.2 _ (by omega)
    have g38 : M1 38 = M 38 := h1.2 _ (by omega)
    have g39 : M1 39 = M 39 := h1.2 _ (by omega)
    refine x_iload_n hO dX1_copyFrom_2 rfl rfl ?_
    refine x_bipush (v := nI 32) hO dX1_copyFrom_3 rfl ?_
    refine x_icmp_ge (tgt := 98) hO dX1_copyFrom_5 (by decide) (fun c => ?_) (fun c => ?_)
    · exact absurd c (nI_ge hi (by decide))
    · refine x_aload_n hO dX1_copyFrom_8 rfl rfl ?_
      refine x_getR (T := TX1) (j := 0) hO dX1_copyFrom_9 flX1_9 (by decide) rfl rfl (by decide) rfl rfl ?_
      refine x_iload_n hO dX1_copyFrom_12 rfl rfl ?_
      refine x_aload_n hO dX1_copyFrom_13 rfl rfl ?_
      refine x_getR (T := TX1) (j := 0) hO dX1_copyFrom_14 flX1_9 (by decide) rfl rfl (by decide) rfl rfl ?_
      refine x_iload_n hO dX1_copyFrom_17 rfl rfl ?_
      refine x_iald hO (by decide) rfl (by decide) (rfl) (hi) dX1_copyFrom_18 ?_
      refine x_iast hO (by decide) rfl (by decide) (rfl) (hi) dX1_copyFrom_19 ?_
      refine x_aload_n hO dX1_copyFrom_20 rfl rfl ?_
      refine x_getR (T := TX1) (j := 1) hO dX1_copyFrom_21 flX1_15 (by decide) rfl rfl (by decide) rfl rfl ?_
      refine x_iload_n hO dX1_copyFrom_24 rfl rfl ?_
      refine x_aload_n hO dX1_copyFrom_25 rfl rfl ?_
      refine x_getR (T := TX1) (j := 1) hO dX1_copyFrom_26 flX1_15 (by decide) rfl rfl (by decide) rfl rfl ?_
      refine x_iload_n hO dX1_copyFrom_29 rfl rfl ?_
      refine x_iald hO (by decide) rfl (by decide) (rfl) (hi) dX1_copyFrom_30 ?_
      refine x_iast hO (by decide) rfl (by decide) (rfl) (hi) dX1_copyFrom_31 ?_
      refine x_aload_n hO dX1_copyFrom_32 rfl rfl ?_
      refine x_getR (T := TX1) (j := 2) hO dX1_copyFrom_33 flX1_18 (by decide) rfl rfl (by decide) rfl rfl ?_
      refine x_iload_n hO dX1_copyFrom_36 rfl rfl ?_
      refine x_aload_n hO dX1_copyFrom_37 rfl rfl ?_
      refine x_getR (T := TX1) (j := 2) hO dX1_copyFrom_38 flX1_18 (by decide) rfl rfl (by decide) rfl rfl ?_
      refine x_iload_n hO dX1_copyFrom_41 rfl rfl ?_
      refine x_iald hO (by decide) rfl (by decide) (rfl) (hi) dX1_copyFrom_42 ?_
      refine x_iast hO (by decide) rfl (by decide) (rfl) (hi) dX1_copyFrom_43 ?_
      refine x_aload_n hO dX1_copyFrom_44 rfl rfl ?_
      refine x_getR (T := TX1) (j := 3) hO dX1_copyFrom_45 flX1_21 (by decide) rfl rfl (by decide) rfl rfl ?_
      refine x_iload_n hO dX1_copyFrom_48 rfl rfl ?_
      refine x_aload_n hO dX1_copyFrom_49 rfl rfl ?_
      refine x_getR (T := TX1) (j := 3) hO dX1_copyFrom_50 flX1_21 (by decide) rfl rfl (by decide) rfl rfl ?_
      refine x_iload_n hO dX1_copyFrom_53 rfl rfl ?_
      refine x_iald hO (by decide) rfl (by decide) (rfl) (hi) dX1_copyFrom_54 ?_
      refine x_iast hO (by decide) rfl (by decide) (rfl) (hi) dX1_copyFrom_55 ?_
      refine x_aload_n hO dX1_copyFrom_56 rfl rfl ?_
      refine x_getR (T := TX1) (j := 4) hO dX1_copyFrom_57 flX1_24 (by decide) rfl rfl (by decide) rfl rfl ?_
      refine x_iload_n hO dX1_copyFrom_60 rfl rfl ?_
      refine x_aload_n hO dX1_copyFrom_61 rfl rfl ?_
      refine x_getR (T := TX1) (j := 4) hO dX1_copyFrom_62 flX1_24 (by decide) rfl rfl (by decide) rfl rfl ?_
      refine x_iload_n hO dX1_copyFrom_65 rfl rfl ?_
      refine x_iald hO (by decide) rfl (by decide) (rfl) (hi) dX1_copyFrom_66 ?_
      refine x_iast hO (by decide) rfl (by decide) (rfl) (hi) dX1_copyFrom_67 ?_
      refine x_aload_n hO dX1_copyFrom_68 rfl rfl ?_
      refine x_getR (T := TX1) (j := 5) hO dX1_copyFrom_69 flX1_27 (by decide) rfl rfl (by decide) rfl rfl ?_
      refine x_iload_n hO dX1_copyFrom_72 rfl rfl ?_
      refine x_aload_n hO dX1_copyFrom_73 rfl rfl ?_
      refine x_getR (T := TX1) (j := 5) hO dX1_copyFrom_74 flX1_27 (by decide) rfl rfl (by decide) rfl rfl ?_
      refine x_iload_n hO dX1_copyFrom_77 rfl rfl ?_
      refine x_iald hO (by decide) rfl (by decide) (rfl) (hi) dX1_copyFrom_78 ?_
      refine x_iast hO (by decide) rfl (by decide) (rfl) (hi) dX1_copyFrom_79 ?_
      refine x_aload_n hO dX1_copyFrom_80 rfl rfl ?_
      refine x_getR (T := TX1) (j := 6) hO dX1_copyFrom_81 flX1_30 (by decide) rfl rfl (by decide) rfl rfl ?_
      refine x_iload_n hO dX1_copyFrom_84 rfl rfl ?_
      refine x_aload_n hO dX1_copyFrom_85 rfl rfl ?_
      refine x_getR (T := TX1) (j := 6) hO dX1_copyFrom_86 flX1_30 (by decide) rfl rfl (by decide) rfl rfl ?_
      refine x_iload_n hO dX1_copyFrom_89 rfl rfl ?_
      refine x_iald hO (by decide) rfl (by decide) (rfl) (hi) dX1_copyFrom_90 ?_
      refine x_iast hO (by decide) rfl (by decide) (rfl) (hi) dX1_copyFrom_91 ?_
      refine x_iinc hO dX1_copyFrom_92 rfl (by first | exact xinc_n _ | rfl) rfl hN ?_
      refine x_goto (tgt := 2) hO dX1_copyFrom_95 (by decide) ?_
      refine ih _ (cpR_s h1 (all7 ?_ ?_ ?_ ?_ ?_ ?_ ?_) (all7 ?_ ?_ ?_ ?_ ?_ ?_ ?_) (fun k hk => ?_))
      all_goals first
        | (simp [xset_at, g33, g34, g35, g36, g37, g38, g39]; done)
        | (intro s hs; simp [xset_at, hs]; done)
        | skip
      have h17 : ¬ k = 17 := by omega
      have h18 : ¬ k = 18 := by omega
      have h19 : ¬ k = 19 := by omega
      have h20 : ¬ k = 20 := by omega
      have h21 : ¬ k = 21 := by omega
      have h22 : ¬ k = 22 := by omega
      have h23 : ¬ k = 23 := by omega
      funext a
      simp [xset_at, h17, h18, h19, h20, h21, h22, h23]
theorem k_copyFrom_16_40 (U : xP) (M : xM) : xMetV U mX1_copyFrom [.inr 16, .inr 40] M (fun M' => cpSt M M' 16 40) := by
  refine xMetV.of (L := [some (.inr 16), some (.inr 40), none]) fX1_copyFrom rfl rfl (Nat.le_of_ble_eq_true rfl) (fun G hN hO hR => ?_)
  have hN : G.2.2.2.2.2.2.2.2.2.2.1 = 3 := hN
  have hO : xOK U G RX1 cX1_copyFrom 0 := hO
  refine x_iconst (v := nI 0) hO dX1_copyFrom_0 rfl ?_
  refine x_istore_n (n := 3) hO dX1_copyFrom_1 rfl rfl (by decide) hN ?_
  refine upd_ind (P := fun i _ => ∀ M1, cpR M M1 16 40 i → XW U G 2 [some (.inr 16), some (.inr 40), some (.inl (nI i))] [] M1) 32 ?_ ?_ 32 0 rfl M ⟨fun w _ s hs => by omega, fun k _ => rfl⟩
  · intro M1 h1
    refine x_iload_n hO dX1_copyFrom_2 rfl rfl ?_
    refine x_bipush (v := nI 32) hO dX1_copyFrom_3 rfl ?_
    refine x_icmp_ge (tgt := 98) hO dX1_copyFrom_5 (by decide) (fun c => ?_) (fun c => ?_)
    · refine x_aload_n hO dX1_copyFrom_98 rfl rfl ?_
      refine x_aload_n hO dX1_copyFrom_99 rfl rfl ?_
      refine x_getI (T := TX1) (j := 7) hO dX1_copyFrom_100 flX1_33 (by decide) rfl rfl (by decide) rfl rfl ?_
      refine x_put (T := TX1) (j := 7) (ty := .int) hO dX1_copyFrom_103 flX1_33 (by decide) rfl rfl (by decide) rfl rfl rfl (by decide +kernel) rfl rfl ?_
      refine x_aload_n hO dX1_copyFrom_106 rfl rfl ?_
      refine x_aload_n hO dX1_copyFrom_107 rfl rfl ?_
      refine x_getI (T := TX1) (j := 8) hO dX1_copyFrom_108 flX1_37 (by decide) rfl rfl (by decide) rfl rfl ?_
      refine x_put (T := TX1) (j := 8) (ty := .int) hO dX1_copyFrom_111 flX1_37 (by decide) rfl rfl (by decide) rfl rfl rfl (by decide +kernel) rfl rfl ?_
      refine x_aload_n hO dX1_copyFrom_114 rfl rfl ?_
      refine x_aload_n hO dX1_copyFrom_115 rfl rfl ?_
      refine x_getI (T := TX1) (j := 9) hO dX1_copyFrom_116 flX1_40 (by decide) rfl rfl (by decide) rfl rfl ?_
      refine x_put (T := TX1) (j := 9) (ty := .int) hO dX1_copyFrom_119 flX1_40 (by decide) rfl rfl (by decide) rfl rfl rfl (by decide +kernel) rfl rfl ?_
      refine x_aload_n hO dX1_copyFrom_122 rfl rfl ?_
      refine x_aload_n hO dX1_copyFrom_123 rfl rfl ?_
      refine x_getI (T := TX1) (j := 10) hO dX1_copyFrom_124 flX1_43 (by decide) rfl rfl (by decide) rfl rfl ?_
      refine x_put (T := TX1) (j := 10) (ty := .int) hO dX1_copyFrom_127 flX1_43 (by decide) rfl rfl (by decide) rfl rfl rfl (by decide +kernel) rfl rfl ?_
      refine x_aload_n hO dX1_copyFrom_130 rfl rfl ?_
      refine x_aload_n hO dX1_copyFrom_131 rfl rfl ?_
      refine x_getI (T := TX1) (j := 11) hO dX1_copyFrom_132 flX1_46 (by decide) rfl rfl (by decide) rfl rfl ?_
      refine x_put (T := TX1) (j := 11) (ty := .int) hO dX1_copyFrom_135 flX1_46 (by decide) rfl rfl (by decide) rfl rfl rfl (by decide +kernel) rfl rfl ?_
      refine x_vret hO hR dX1_copyFrom_138 ?_
      have gp : M1 16 = M 16 := h1.2 _ (by omega)
      have gq : M1 40 = M 40 := h1.2 _ (by omega)
      refine ⟨cA_ext (fun s hs => ?_) (fun s hs => cA_ge hs), all5 ?_ ?_ ?_ ?_ ?_, fun k hk => ?_⟩
      · refine cA_row hs hs (fun w hw => ?_)
        have e := h1.1 w hw s hs
        have n0 : ¬ 16 + 1 + w = 16 := by omega
        simp only [xset_at, n0, if_false]
        exact e
      · simp [xset_at, gp, gq]
      · simp [xset_at, gp, gq]
      · simp [xset_at, gp, gq]
      · simp [xset_at, gp, gq]
      · simp [xset_at, gp, gq]
      · have n0 : ¬ k = 16 := by omega
        funext a
        simp only [xset_at, n0, if_false]
        rw [h1.2 k (by omega)]
    · exact absurd (Int32.le_refl _) c
  · intro i d hd ih M1 h1
    have hi : i < 32 := by omega
    have g41 : M1 41 = M 41 := h1.2 _ (by omega)
    have g42 : M1 42 = M 42 := h1.2 _ (by omega)
    have g43 : M1 43 = M 43 := h1.2 _ (by omega)
    have g44 : M1 44 = M 44 := h1.2 _ (by omega)
    have g45 : M1 45 = M 45 := h1.2 _ (by omega)
    have g46 : M1 46 = M 46 := h1.2 _ (by omega)
    have g47 : M1 47 = M 47 := h1.2 _ (by omega)
    refine x_iload_n hO dX1_copyFrom_2 rfl rfl ?_
    refine x_bipush (v := nI 32) hO dX1_copyFrom_3 rfl ?_
    refine x_icmp_ge (tgt := 98) hO dX1_copyFrom_5 (by decide) (fun c => ?_) (fun c => ?_)
    · exact absurd c (nI_ge hi (by decide))
    · refine x_aload_n hO dX1_copyFrom_8 rfl rfl ?_
      refine x_getR (T := TX1) (j := 0) hO dX1_copyFrom_9 flX1_9 (by decide) rfl rfl (by decide) rfl rfl ?_
      refine x_iload_n hO dX1_copyFrom_12 rfl rfl ?_
      refine x_aload_n hO dX1_copyFrom_13 rfl rfl ?_
      refine x_getR (T := TX1) (j := 0) hO dX1_copyFrom_14 flX1_9 (by decide) rfl rfl (by decide) rfl rfl ?_
      refine x_iload_n hO dX1_copyFrom_17 rfl rfl ?_
      refine x_iald hO (by decide) rfl (by decide) (rfl) (hi) dX1_copyFrom_18 ?_
      refine x_iast hO (by decide) rfl (by decide) (rfl) (hi) dX1_copyFrom_19 ?_
      refine x_aload_n hO dX1_copyFrom_20 rfl rfl ?_
      refine x_getR (T := TX1) (j := 1) hO dX1_copyFrom_21 flX1_15 (by decide) rfl rfl (by decide) rfl rfl ?_
      refine x_iload_n hO dX1_copyFrom_24 rfl rfl ?_
      refine x_aload_n hO dX1_copyFrom_25 rfl rfl ?_
      refine x_getR (T := TX1) (j := 1) hO dX1_copyFrom_26 flX1_15 (by decide) rfl rfl (by decide) rfl rfl ?_
      refine x_iload_n hO dX1_copyFrom_29 rfl rfl ?_
      refine x_iald hO (by decide) rfl (by decide) (rfl) (hi) dX1_copyFrom_30 ?_
      refine x_iast hO (by decide) rfl (by decide) (rfl) (hi) dX1_copyFrom_31 ?_
      refine x_aload_n hO dX1_copyFrom_32 rfl rfl ?_
      refine x_getR (T := TX1) (j := 2) hO dX1_copyFrom_33 flX1_18 (by decide) rfl rfl (by decide) rfl rfl ?_
      refine x_iload_n hO dX1_copyFrom_36 rfl rfl ?_
      refine x_aload_n hO dX1_copyFrom_37 rfl rfl ?_
      refine x_getR (T := TX1) (j := 2) hO dX1_copyFrom_38 flX1_18 (by decide) rfl rfl (by decide) rfl rfl ?_
      refine x_iload_n hO dX1_copyFrom_41 rfl rfl ?_
      refine x_iald hO (by decide) rfl (by decide) (rfl) (hi) dX1_copyFrom_42 ?_
      refine x_iast hO (by decide) rfl (by decide) (rfl) (hi) dX1_copyFrom_43 ?_
      refine x_aload_n hO dX1_copyFrom_44 rfl rfl ?_
      refine x_getR (T := TX1) (j := 3) hO dX1_copyFrom_45 flX1_21 (by decide) rfl rfl (by decide) rfl rfl ?_
      refine x_iload_n hO dX1_copyFrom_48 rfl rfl ?_
      refine x_aload_n hO dX1_copyFrom_49 rfl rfl ?_
      refine x_getR (T := TX1) (j := 3) hO dX1_copyFrom_50 flX1_21 (by decide) rfl rfl (by decide) rfl rfl ?_
      refine x_iload_n hO dX1_copyFrom_53 rfl rfl ?_
      refine x_iald hO (by decide) rfl (by decide) (rfl) (hi) dX1_copyFrom_54 ?_
      refine x_iast hO (by decide) rfl (by decide) (rfl) (hi) dX1_copyFrom_55 ?_
      refine x_aload_n hO dX1_copyFrom_56 rfl rfl ?_
      refine x_getR (T := TX1) (j := 4) hO dX1_copyFrom_57 flX1_24 (by decide) rfl rfl (by decide) rfl rfl ?_
      refine x_iload_n hO dX1_copyFrom_60 rfl rfl ?_
      refine x_aload_n hO dX1_copyFrom_61 rfl rfl ?_
      refine x_getR (T := TX1) (j := 4) hO dX1_copyFrom_62 flX1_24 (by decide) rfl rfl (by decide) rfl rfl ?_
      refine x_iload_n hO dX1_copyFrom_65 rfl rfl ?_
      refine x_iald hO (by decide) rfl (by decide) (rfl) (hi) dX1_copyFrom_66 ?_
      refine x_iast hO (by decide) rfl (by decide) (rfl) (hi) dX1_copyFrom_67 ?_
      refine x_aload_n hO dX1_copyFrom_68 rfl rfl ?_
      refine x_getR (T := TX1) (j := 5) hO dX1_copyFrom_69 flX1_27 (by decide) rfl rfl (by decide) rfl rfl ?_
      refine x_iload_n hO dX1_copyFrom_72 rfl rfl ?_
      refine x_aload_n hO dX1_copyFrom_73 rfl rfl ?_
      refine x_getR (T := TX1) (j := 5) hO dX1_copyFrom_74 flX1_27 (by decide) rfl rfl (by decide) rfl rfl ?_
      refine x_iload_n hO dX1_copyFrom_77 rfl rfl ?_
      refine x_iald hO (by decide) rfl (by decide) (rfl) (hi) dX1_copyFrom_78 ?_
      refine x_iast hO (by decide) rfl (by decide) (rfl) (hi) dX1_copyFrom_79 ?_
      refine x_aload_n hO dX1_copyFrom_80 rfl rfl ?_
      refine x_getR (T := TX1) (j := 6) hO dX1_copyFrom_81 flX1_30 (by decide) rfl rfl (by decide) rfl rfl ?_
      refine x_iload_n hO dX1_copyFrom_84 rfl rfl ?_
      refine x_aload_n hO dX1_copyFrom_85 rfl rfl ?_
      refine x_getR (T := TX1) (j := 6) hO dX1_copyFrom_86 flX1_30 (by decide) rfl rfl (by decide) rfl rfl ?_
      refine x_iload_n hO dX1_copyFrom_89 rfl rfl ?_
      refine x_iald hO (by decide) rfl (by decide) (rfl) (hi) dX1_copyFrom_90 ?_
      refine x_iast hO (by decide) rfl (by decide) (rfl) (hi) dX1_copyFrom_91 ?_
      refine x_iinc hO dX1_copyFrom_92 rfl (by first | exact xinc_n _ | rfl) rfl hN ?_
      refine x_goto (tgt := 2) hO dX1_copyFrom_95 (by decide) ?_
      refine ih _ (cpR_s h1 (all7 ?_ ?_ ?_ ?_ ?_ ?_ ?_) (all7 ?_ ?_ ?_ ?_ ?_ ?_ ?_) (fun k hk => ?_))
      all_goals first
        | (simp [xset_at, g41, g42, g43, g44, g45, g46, g47]; done)
        | (intro s hs; simp [xset_at, hs]; done)
        | skip
      have h17 : ¬ k = 17 := by omega
      have h18 : ¬ k = 18 := by omega
      have h19 : ¬ k = 19 := by omega
      have h20 : ¬ k = 20 := by omega
      have h21 : ¬ k = 21 := by omega
      have h22 : ¬ k = 22 := by omega
      have h23 : ¬ k = 23 := by omega
      funext a
      simp [xset_at, h17, h18, h19, h20, h21, h22, h23]
theorem k_copyFrom_16_48 (U : xP) (M : xM) : xMetV U mX1_copyFrom [.inr 16, .inr 48] M (fun M' => cpSt M M' 16 48) := by
  refine xMetV.of (L := [some (.inr 16), some (.inr 48), none]) fX1_copyFrom rfl rfl (Nat.le_of_ble_eq_true rfl) (fun G hN hO hR => ?_)
  have hN : G.2.2.2.2.2.2.2.2.2.2.1 = 3 := hN
  have hO : xOK U G RX1 cX1_copyFrom 0 := hO
  refine x_iconst (v := nI 0) hO dX1_copyFrom_0 rfl ?_
  refine x_istore_n (n := 3) hO dX1_copyFrom_1 rfl rfl (by decide) hN ?_
  refine upd_ind (P := fun i _ => ∀ M1, cpR M M1 16 48 i → XW U G 2 [some (.inr 16), some (.inr 48), some (.inl (nI i))] [] M1) 32 ?_ ?_ 32 0 rfl M ⟨fun w _ s hs => by omega, fun k _ => rfl⟩
  · intro M1 h1
    refine x_iload_n hO dX1_copyFrom_2 rfl rfl ?_
    refine x_bipush (v := nI 32) hO dX1_copyFrom_3 rfl ?_
    refine x_icmp_ge (tgt := 98) hO dX1_copyFrom_5 (by decide) (fun c => ?_) (fun c => ?_)
    · refine x_aload_n hO dX1_copyFrom_98 rfl rfl ?_
      refine x_aload_n hO dX1_copyFrom_99 rfl rfl ?_
      refine x_getI (T := TX1) (j := 7) hO dX1_copyFrom_100 flX1_33 (by decide) rfl rfl (by decide) rfl rfl ?_
      refine x_put (T := TX1) (j := 7) (ty := .int) hO dX1_copyFrom_103 flX1_33 (by decide) rfl rfl (by decide) rfl rfl rfl (by decide +kernel) rfl rfl ?_
      refine x_aload_n hO dX1_copyFrom_106 rfl rfl ?_
      refine x_aload_n hO dX1_copyFrom_107 rfl rfl ?_
      refine x_getI (T := TX1) (j := 8) hO dX1_copyFrom_108 flX1_37 (by decide) rfl rfl (by decide) rfl rfl ?_
      refine x_put (T := TX1) (j := 8) (ty := .int) hO dX1_copyFrom_111 flX1_37 (by decide) rfl rfl (by decide) rfl rfl rfl (by decide +kernel) rfl rfl ?_
      refine x_aload_n hO dX1_copyFrom_114 rfl rfl ?_
      refine x_aload_n hO dX1_copyFrom_115 rfl rfl ?_
      refine x_getI (T := TX1) (j := 9) hO dX1_copyFrom_116 flX1_40 (by decide) rfl rfl (by decide) rfl rfl ?_
      refine x_put (T := TX1) (j := 9) (ty := .int) hO dX1_copyFrom_119 flX1_40 (by decide) rfl rfl (by decide) rfl rfl rfl (by decide +kernel) rfl rfl ?_
      refine x_aload_n hO dX1_copyFrom_122 rfl rfl ?_
      refine x_aload_n hO dX1_copyFrom_123 rfl rfl ?_
      refine x_getI (T := TX1) (j := 10) hO dX1_copyFrom_124 flX1_43 (by decide) rfl rfl (by decide) rfl rfl ?_
      refine x_put (T := TX1) (j := 10) (ty := .int) hO dX1_copyFrom_127 flX1_43 (by decide) rfl rfl (by decide) rfl rfl rfl (by decide +kernel) rfl rfl ?_
      refine x_aload_n hO dX1_copyFrom_130 rfl rfl ?_
      refine x_aload_n hO dX1_copyFrom_131 rfl rfl ?_
      refine x_getI (T := TX1) (j := 11) hO dX1_copyFrom_132 flX1_46 (by decide) rfl rfl (by decide) rfl rfl ?_
      refine x_put (T := TX1) (j := 11) (ty := .int) hO dX1_copyFrom_135 flX1_46 (by decide) rfl rfl (by decide) rfl rfl rfl (by decide +kernel) rfl rfl ?_
      refine x_vret hO hR dX1_copyFrom_138 ?_
      have gp : M1 16 = M 16 := h1.2 _ (by omega)
      have gq : M1 48 = M 48 := h1.2 _ (by omega)
      refine ⟨cA_ext (fun s hs => ?_) (fun s hs => cA_ge hs), all5 ?_ ?_ ?_ ?_ ?_, fun k hk => ?_⟩
      · refine cA_row hs hs (fun w hw => ?_)
        have e := h1.1 w hw s hs
        have n0 : ¬ 16 + 1 + w = 16 := by omega
        simp only [xset_at, n0, if_false]
        exact e
      · simp [xset_at, gp, gq]
      · simp [xset_at, gp, gq]
      · simp [xset_at, gp, gq]
      · simp [xset_at, gp, gq]
      · simp [xset_at, gp, gq]
      · have n0 : ¬ k = 16 := by omega
        funext a
        simp only [xset_at, n0, if_false]
        rw [h1.2 k (by omega)]
    · exact absurd (Int32.le_refl _) c
  · intro i d hd ih M1 h1
    have hi : i < 32 := by omega
    have g49 : M1 49 = M 49 := h1.2 _ (by omega)
    have g50 : M1 50 = M 50 := h1.2 _ (by omega)
    have g51 : M1 51 = M 51 := h1.2 _ (by omega)
    have g52 : M1 52 = M 52 := h1.2 _ (by omega)
    have g53 : M1 53 = M 53 := h1.2 _ (by omega)
    have g54 : M1 54 = M 54 := h1.2 _ (by omega)
    have g55 : M1 55 = M 55 := h1.2 _ (by omega)
    refine x_iload_n hO dX1_copyFrom_2 rfl rfl ?_
    refine x_bipush (v := nI 32) hO dX1_copyFrom_3 rfl ?_
    refine x_icmp_ge (tgt := 98) hO dX1_copyFrom_5 (by decide) (fun c => ?_) (fun c => ?_)
    · exact absurd c (nI_ge hi (by decide))
    · refine x_aload_n hO dX1_copyFrom_8 rfl rfl ?_
      refine x_getR (T := TX1) (j := 0) hO dX1_copyFrom_9 flX1_9 (by decide) rfl rfl (by decide) rfl rfl ?_
      refine x_iload_n hO dX1_copyFrom_12 rfl rfl ?_
      refine x_aload_n hO dX1_copyFrom_13 rfl rfl ?_
      refine x_getR (T := TX1) (j := 0) hO dX1_copyFrom_14 flX1_9 (by decide) rfl rfl (by decide) rfl rfl ?_
      refine x_iload_n hO dX1_copyFrom_17 rfl rfl ?_
      refine x_iald hO (by decide) rfl (by decide) (rfl) (hi) dX1_copyFrom_18 ?_
      refine x_iast hO (by decide) rfl (by decide) (rfl) (hi) dX1_copyFrom_19 ?_
      refine x_aload_n hO dX1_copyFrom_20 rfl rfl ?_
      refine x_getR (T := TX1) (j := 1) hO dX1_copyFrom_21 flX1_15 (by decide) rfl rfl (by decide) rfl rfl ?_
      refine x_iload_n hO dX1_copyFrom_24 rfl rfl ?_
      refine x_aload_n hO dX1_copyFrom_25 rfl rfl ?_
      refine x_getR (T := TX1) (j := 1) hO dX1_copyFrom_26 flX1_15 (by decide) rfl rfl (by decide) rfl rfl ?_
      refine x_iload_n hO dX1_copyFrom_29 rfl rfl ?_
      refine x_iald hO (by decide) rfl (by decide) (rfl) (hi) dX1_copyFrom_30 ?_
      refine x_iast hO (by decide) rfl (by decide) (rfl) (hi) dX1_copyFrom_31 ?_
      refine x_aload_n hO dX1_copyFrom_32 rfl rfl ?_
      refine x_getR (T := TX1) (j := 2) hO dX1_copyFrom_33 flX1_18 (by decide) rfl rfl (by decide) rfl rfl ?_
      refine x_iload_n hO dX1_copyFrom_36 rfl rfl ?_
      refine x_aload_n hO dX1_copyFrom_37 rfl rfl ?_
      refine x_getR (T := TX1) (j := 2) hO dX1_copyFrom_38 flX1_18 (by decide) rfl rfl (by decide) rfl rfl ?_
      refine x_iload_n hO dX1_copyFrom_41 rfl rfl ?_
      refine x_iald hO (by decide) rfl (by decide) (rfl) (hi) dX1_copyFrom_42 ?_
      refine x_iast hO (by decide) rfl (by decide) (rfl) (hi) dX1_copyFrom_43 ?_
      refine x_aload_n hO dX1_copyFrom_44 rfl rfl ?_
      refine x_getR (T := TX1) (j := 3) hO dX1_copyFrom_45 flX1_21 (by decide) rfl rfl (by decide) rfl rfl ?_
      refine x_iload_n hO dX1_copyFrom_48 rfl rfl ?_
      refine x_aload_n hO dX1_copyFrom_49 rfl rfl ?_
      refine x_getR (T := TX1) (j := 3) hO dX1_copyFrom_50 flX1_21 (by decide) rfl rfl (by decide) rfl rfl ?_
      refine x_iload_n hO dX1_copyFrom_53 rfl rfl ?_
      refine x_iald hO (by decide) rfl (by decide) (rfl) (hi) dX1_copyFrom_54 ?_
      refine x_iast hO (by decide) rfl (by decide) (rfl) (hi) dX1_copyFrom_55 ?_
      refine x_aload_n hO dX1_copyFrom_56 rfl rfl ?_
      refine x_getR (T := TX1) (j := 4) hO dX1_copyFrom_57 flX1_24 (by decide) rfl rfl (by decide) rfl rfl ?_
      refine x_iload_n hO dX1_copyFrom_60 rfl rfl ?_
      refine x_aload_n hO dX1_copyFrom_61 rfl rfl ?_
      refine x_getR (T := TX1) (j := 4) hO dX1_copyFrom_62 flX1_24 (by decide) rfl rfl (by decide) rfl rfl ?_
      refine x_iload_n hO dX1_copyFrom_65 rfl rfl ?_
      refine x_iald hO (by decide) rfl (by decide) (rfl) (hi) dX1_copyFrom_66 ?_
      refine x_iast hO (by decide) rfl (by decide) (rfl) (hi) dX1_copyFrom_67 ?_
      refine x_aload_n hO dX1_copyFrom_68 rfl rfl ?_
      refine x_getR (T := TX1) (j := 5) hO dX1_copyFrom_69 flX1_27 (by decide) rfl rfl (by decide) rfl rfl ?_
      refine x_iload_n hO dX1_copyFrom_72 rfl rfl ?_
      refine x_aload_n hO dX1_copyFrom_73 rfl rfl ?_
      refine x_getR (T := TX1) (j := 5) hO dX1_copyFrom_74 flX1_27 (by decide) rfl rfl (by decide) rfl rfl ?_
      refine x_iload_n hO dX1_copyFrom_77 rfl rfl ?_
      refine x_iald hO (by decide) rfl (by decide) (rfl) (hi) dX1_copyFrom_78 ?_
      refine x_iast hO (by decide) rfl (by decide) (rfl) (hi) dX1_copyFrom_79 ?_
      refine x_aload_n hO dX1_copyFrom_80 rfl rfl ?_
      refine x_getR (T := TX1) (j := 6) hO dX1_copyFrom_81 flX1_30 (by decide) rfl rfl (by decide) rfl rfl ?_
      refine x_iload_n hO dX1_copyFrom_84 rfl rfl ?_
      refine x_aload_n hO dX1_copyFrom_85 rfl rfl ?_
      refine x_getR (T := TX1) (j := 6) hO dX1_copyFrom_86 flX1_30 (by decide) rfl rfl (by decide) rfl rfl ?_
      refine x_iload_n hO dX1_copyFrom_89 rfl rfl ?_
      refine x_iald hO (by decide) rfl (by decide) (rfl) (hi) dX1_copyFrom_90 ?_
      refine x_iast hO (by decide) rfl (by decide) (rfl) (hi) dX1_copyFrom_91 ?_
      refine x_iinc hO dX1_copyFrom_92 rfl (by first | exact xinc_n _ | rfl) rfl hN ?_
      refine x_goto (tgt := 2) hO dX1_copyFrom_95 (by decide) ?_
      refine ih _ (cpR_s h1 (all7 ?_ ?_ ?_ ?_ ?_ ?_ ?_) (all7 ?_ ?_ ?_ ?_ ?_ ?_ ?_) (fun k hk => ?_))
      all_goals first
        | (simp [xset_at, g49, g50, g51, g52, g53, g54, g55]; done)
        | (intro s hs; simp [xset_at, hs]; done)
        | skip
      have h17 : ¬ k = 17 := by omega
      have h18 : ¬ k = 18 := by omega
      have h19 : ¬ k = 19 := by omega
      have h20 : ¬ k = 20 := by omega
      have h21 : ¬ k = 21 := by omega
      have h22 : ¬ k = 22 := by omega
      have h23 : ¬ k = 23 := by omega
      funext a
      simp [xset_at, h17, h18, h19, h20, h21, h22, h23]
theorem k_copyFrom_16_56 (U : xP) (M : xM) : xMetV U mX1_copyFrom [.inr 16, .inr 56] M (fun M' => cpSt M M' 16 56) := by
  refine xMetV.of (L := [some (.inr 16), some (.inr 56), none]) fX1_copyFrom rfl rfl (Nat.le_of_ble_eq_true rfl) (fun G hN hO hR => ?_)
  have hN : G.2.2.2.2.2.2.2.2.2.2.1 = 3 := hN
  have hO : xOK U G RX1 cX1_copyFrom 0 := hO
  refine x_iconst (v := nI 0) hO dX1_copyFrom_0 rfl ?_
  refine x_istore_n (n := 3) hO dX1_copyFrom_1 rfl rfl (by decide) hN ?_
  refine upd_ind (P := fun i _ => ∀ M1, cpR M M1 16 56 i → XW U G 2 [some (.inr 16), some (.inr 56), some (.inl (nI i))] [] M1) 32 ?_ ?_ 32 0 rfl M ⟨fun w _ s hs => by omega, fun k _ => rfl⟩
  · intro M1 h1
    refine x_iload_n hO dX1_copyFrom_2 rfl rfl ?_
    refine x_bipush (v := nI 32) hO dX1_copyFrom_3 rfl ?_
    refine x_icmp_ge (tgt := 98) hO dX1_copyFrom_5 (by decide) (fun c => ?_) (fun c => ?_)
    · refine x_aload_n hO dX1_copyFrom_98 rfl rfl ?_
      refine x_aload_n hO dX1_copyFrom_99 rfl rfl ?_
      refine x_getI (T := TX1) (j := 7) hO dX1_copyFrom_100 flX1_33 (by decide) rfl rfl (by decide) rfl rfl ?_
      refine x_put (T := TX1) (j := 7) (ty := .int) hO dX1_copyFrom_103 flX1_33 (by decide) rfl rfl (by decide) rfl rfl rfl (by decide +kernel) rfl rfl ?_
      refine x_aload_n hO dX1_copyFrom_106 rfl rfl ?_
      refine x_aload_n hO dX1_copyFrom_107 rfl rfl ?_
      refine x_getI (T := TX1) (j := 8) hO dX1_copyFrom_108 flX1_37 (by decide) rfl rfl (by decide) rfl rfl ?_
      refine x_put (T := TX1) (j := 8) (ty := .int) hO dX1_copyFrom_111 flX1_37 (by decide) rfl rfl (by decide) rfl rfl rfl (by decide +kernel) rfl rfl ?_
      refine x_aload_n hO dX1_copyFrom_114 rfl rfl ?_
      refine x_aload_n hO dX1_copyFrom_115 rfl rfl ?_
      refine x_getI (T := TX1) (j := 9) hO dX1_copyFrom_116 flX1_40 (by decide) rfl rfl (by decide) rfl rfl ?_
      refine x_put (T := TX1) (j := 9) (ty := .int) hO dX1_copyFrom_119 flX1_40 (by decide) rfl rfl (by decide) rfl rfl rfl (by decide +kernel) rfl rfl ?_
      refine x_aload_n hO dX1_copyFrom_122 rfl rfl ?_
      refine x_aload_n hO dX1_copyFrom_123 rfl rfl ?_
      refine x_getI (T := TX1) (j := 10) hO dX1_copyFrom_124 flX1_43 (by decide) rfl rfl (by decide) rfl rfl ?_
      refine x_put (T := TX1) (j := 10) (ty := .int) hO dX1_copyFrom_127 flX1_43 (by decide) rfl rfl (by decide) rfl rfl rfl (by decide +kernel) rfl rfl ?_
      refine x_aload_n hO dX1_copyFrom_130 rfl rfl ?_
      refine x_aload_n hO dX1_copyFrom_131 rfl rfl ?_
      refine x_getI (T := TX1) (j := 11) hO dX1_copyFrom_132 flX1_46 (by decide) rfl rfl (by decide) rfl rfl ?_
      refine x_put (T := TX1) (j := 11) (ty := .int) hO dX1_copyFrom_135 flX1_46 (by decide) rfl rfl (by decide) rfl rfl rfl (by decide +kernel) rfl rfl ?_
      refine x_vret hO hR dX1_copyFrom_138 ?_
      have gp : M1 16 = M 16 := h1.2 _ (by omega)
      have gq : M1 56 = M 56 := h1.2 _ (by omega)
      refine ⟨cA_ext (fun s hs => ?_) (fun s hs => cA_ge hs), all5 ?_ ?_ ?_ ?_ ?_, fun k hk => ?_⟩
      · refine cA_row hs hs (fun w hw => ?_)
        have e := h1.1 w hw s hs
        have n0 : ¬ 16 + 1 + w = 16 := by omega
        simp only [xset_at, n0, if_false]
        exact e
      · simp [xset_at, gp, gq]
      · simp [xset_at, gp, gq]
      · simp [xset_at, gp, gq]
      · simp [xset_at, gp, gq]
      · simp [xset_at, gp, gq]
      · have n0 : ¬ k = 16 := by omega
        funext a
        simp only [xset_at, n0, if_false]
        rw [h1.2 k (by omega)]
    · exact absurd (Int32.le_refl _) c
  · intro i d hd ih M1 h1
    have hi : i < 32 := by omega
    have g57 : M1 57 = M 57 := h1.2 _ (by omega)
    have g58 : M1 58 = M 58 := h1.2 _ (by omega)
    have g59 : M1 59 = M 59 := h1.2 _ (by omega)
    have g60 : M1 60 = M 60 := h1.2 _ (by omega)
    have g61 : M1 61 = M 61 := h1.2 _ (by omega)
    have g62 : M1 62 = M 62 := h1.2 _ (by omega)
    have g63 : M1 63 = M 63 := h1.2 _ (by omega)
    refine x_iload_n hO dX1_copyFrom_2 rfl rfl ?_
    refine x_bipush (v := nI 32) hO dX1_copyFrom_3 rfl ?_
    refine x_icmp_ge (tgt := 98) hO dX1_copyFrom_5 (by decide) (fun c => ?_) (fun c => ?_)
    · exact absurd c (nI_ge hi (by decide))
    · refine x_aload_n hO dX1_copyFrom_8 rfl rfl ?_
      refine x_getR (T := TX1) (j := 0) hO dX1_copyFrom_9 flX1_9 (by decide) rfl rfl (by decide) rfl rfl ?_
      refine x_iload_n hO dX1_copyFrom_12 rfl rfl ?_
      refine x_aload_n hO dX1_copyFrom_13 rfl rfl ?_
      refine x_getR (T := TX1) (j := 0) hO dX1_copyFrom_14 flX1_9 (by decide) rfl rfl (by decide) rfl rfl ?_
      refine x_iload_n hO dX1_copyFrom_17 rfl rfl ?_
      refine x_iald hO (by decide) rfl (by decide) (rfl) (hi) dX1_copyFrom_18 ?_
      refine x_iast hO (by decide) rfl (by decide) (rfl) (hi) dX1_copyFrom_19 ?_
      refine x_aload_n hO dX1_copyFrom_20 rfl rfl ?_
      refine x_getR (T := TX1) (j := 1) hO dX1_copyFrom_21 flX1_15 (by decide) rfl rfl (by decide) rfl rfl ?_
      refine x_iload_n hO dX1_copyFrom_24 rfl rfl ?_
      refine x_aload_n hO dX1_copyFrom_25 rfl rfl ?_
      refine x_getR (T := TX1) (j := 1) hO dX1_copyFrom_26 flX1_15 (by decide) rfl rfl (by decide) rfl rfl ?_
      refine x_iload_n hO dX1_copyFrom_29 rfl rfl ?_
      refine x_iald hO (by decide) rfl (by decide) (rfl) (hi) dX1_copyFrom_30 ?_
      refine x_iast hO (by decide) rfl (by decide) (rfl) (hi) dX1_copyFrom_31 ?_
      refine x_aload_n hO dX1_copyFrom_32 rfl rfl ?_
      refine x_getR (T := TX1) (j := 2) hO dX1_copyFrom_33 flX1_18 (by decide) rfl rfl (by decide) rfl rfl ?_
      refine x_iload_n hO dX1_copyFrom_36 rfl rfl ?_
      refine x_aload_n hO dX1_copyFrom_37 rfl rfl ?_
      refine x_getR (T := TX1) (j := 2) hO dX1_copyFrom_38 flX1_18 (by decide) rfl rfl (by decide) rfl rfl ?_
      refine x_iload_n hO dX1_copyFrom_41 rfl rfl ?_
      refine x_iald hO (by decide) rfl (by decide) (rfl) (hi) dX1_copyFrom_42 ?_
      refine x_iast hO (by decide) rfl (by decide) (rfl) (hi) dX1_copyFrom_43 ?_
      refine x_aload_n hO dX1_copyFrom_44 rfl rfl ?_
      refine x_getR (T := TX1) (j := 3) hO dX1_copyFrom_45 flX1_21 (by decide) rfl rfl (by decide) rfl rfl ?_
      refine x_iload_n hO dX1_copyFrom_48 rfl rfl ?_
      refine x_aload_n hO dX1_copyFrom_49 rfl rfl ?_
      refine x_getR (T := TX1) (j := 3) hO dX1_copyFrom_50 flX1_21 (by decide) rfl rfl (by decide) rfl rfl ?_
      refine x_iload_n hO dX1_copyFrom_53 rfl rfl ?_
      refine x_iald hO (by decide) rfl (by decide) (rfl) (hi) dX1_copyFrom_54 ?_
      refine x_iast hO (by decide) rfl (by decide) (rfl) (hi) dX1_copyFrom_55 ?_
      refine x_aload_n hO dX1_copyFrom_56 rfl rfl ?_
      refine x_getR (T := TX1) (j := 4) hO dX1_copyFrom_57 flX1_24 (by decide) rfl rfl (by decide) rfl rfl ?_
      refine x_iload_n hO dX1_copyFrom_60 rfl rfl ?_
      refine x_aload_n hO dX1_copyFrom_61 rfl rfl ?_
      refine x_getR (T := TX1) (j := 4) hO dX1_copyFrom_62 flX1_24 (by decide) rfl rfl (by decide) rfl rfl ?_
      refine x_iload_n hO dX1_copyFrom_65 rfl rfl ?_
      refine x_iald hO (by decide) rfl (by decide) (rfl) (hi) dX1_copyFrom_66 ?_
      refine x_iast hO (by decide) rfl (by decide) (rfl) (hi) dX1_copyFrom_67 ?_
      refine x_aload_n hO dX1_copyFrom_68 rfl rfl ?_
      refine x_getR (T := TX1) (j := 5) hO dX1_copyFrom_69 flX1_27 (by decide) rfl rfl (by decide) rfl rfl ?_
      refine x_iload_n hO dX1_copyFrom_72 rfl rfl ?_
      refine x_aload_n hO dX1_copyFrom_73 rfl rfl ?_
      refine x_getR (T := TX1) (j := 5) hO dX1_copyFrom_74 flX1_27 (by decide) rfl rfl (by decide) rfl rfl ?_
      refine x_iload_n hO dX1_copyFrom_77 rfl rfl ?_
      refine x_iald hO (by decide) rfl (by decide) (rfl) (hi) dX1_copyFrom_78 ?_
      refine x_iast hO (by decide) rfl (by decide) (rfl) (hi) dX1_copyFrom_79 ?_
      refine x_aload_n hO dX1_copyFrom_80 rfl rfl ?_
      refine x_getR (T := TX1) (j := 6) hO dX1_copyFrom_81 flX1_30 (by decide) rfl rfl (by decide) rfl rfl ?_
      refine x_iload_n hO dX1_copyFrom_84 rfl rfl ?_
      refine x_aload_n hO dX1_copyFrom_85 rfl rfl ?_
      refine x_getR (T := TX1) (j := 6) hO dX1_copyFrom_86 flX1_30 (by decide) rfl rfl (by decide) rfl rfl ?_
      refine x_iload_n hO dX1_copyFrom_89 rfl rfl ?_
      refine x_iald hO (by decide) rfl (by decide) (rfl) (hi) dX1_copyFrom_90 ?_
      refine x_iast hO (by decide) rfl (by decide) (rfl) (hi) dX1_copyFrom_91 ?_
      refine x_iinc hO dX1_copyFrom_92 rfl (by first | exact xinc_n _ | rfl) rfl hN ?_
      refine x_goto (tgt := 2) hO dX1_copyFrom_95 (by decide) ?_
      refine ih _ (cpR_s h1 (all7 ?_ ?_ ?_ ?_ ?_ ?_ ?_) (all7 ?_ ?_ ?_ ?_ ?_ ?_ ?_) (fun k hk => ?_))
      all_goals first
        | (simp [xset_at, g57, g58, g59, g60, g61, g62, g63]; done)
        | (intro s hs; simp [xset_at, hs]; done)
        | skip
      have h17 : ¬ k = 17 := by omega
      have h18 : ¬ k = 18 := by omega
      have h19 : ¬ k = 19 := by omega
      have h20 : ¬ k = 20 := by omega
      have h21 : ¬ k = 21 := by omega
      have h22 : ¬ k = 22 := by omega
      have h23 : ¬ k = 23 := by omega
      funext a
      simp [xset_at, h17, h18, h19, h20, h21, h22, h23]
theorem k_copyFrom_24_16 (U : xP) (M : xM) : xMetV U mX1_copyFrom [.inr 24, .inr 16] M (fun M' => cpSt M M' 24 16) := by
  refine xMetV.of (L := [some (.inr 24), some (.inr 16), none]) fX1_copyFrom rfl rfl (Nat.le_of_ble_eq_true rfl) (fun G hN hO hR => ?_)
  have hN : G.2.2.2.2.2.2.2.2.2.2.1 = 3 := hN
  have hO : xOK U G RX1 cX1_copyFrom 0 := hO
  refine x_iconst (v := nI 0) hO dX1_copyFrom_0 rfl ?_
  refine x_istore_n (n := 3) hO dX1_copyFrom_1 rfl rfl (by decide) hN ?_
  refine upd_ind (P := fun i _ => ∀ M1, cpR M M1 24 16 i → XW U G 2 [some (.inr 24), some (.inr 16), some (.inl (nI i))] [] M1) 32 ?_ ?_ 32 0 rfl M ⟨fun w _ s hs => by omega, fun k _ => rfl⟩
  · intro M1 h1
    refine x_iload_n hO dX1_copyFrom_2 rfl rfl ?_
    refine x_bipush (v := nI 32) hO dX1_copyFrom_3 rfl ?_
    refine x_icmp_ge (tgt := 98) hO dX1_copyFrom_5 (by decide) (fun c => ?_) (fun c => ?_)
    · refine x_aload_n hO dX1_copyFrom_98 rfl rfl ?_
      refine x_aload_n hO dX1_copyFrom_99 rfl rfl ?_
      refine x_getI (T := TX1) (j := 7) hO dX1_copyFrom_100 flX1_33 (by decide) rfl rfl (by decide) rfl rfl ?_
      refine x_put (T := TX1) (j := 7) (ty := .int) hO dX1_copyFrom_103 flX1_33 (by decide) rfl rfl (by decide) rfl rfl rfl (by decide +kernel) rfl rfl ?_
      refine x_aload_n hO dX1_copyFrom_106 rfl rfl ?_
      refine x_aload_n hO dX1_copyFrom_107 rfl rfl ?_
      refine x_getI (T := TX1) (j := 8) hO dX1_copyFrom_108 flX1_37 (by decide) rfl rfl (by decide) rfl rfl ?_
      refine x_put (T := TX1) (j := 8) (ty := .int) hO dX1_copyFrom_111 flX1_37 (by decide) rfl rfl (by decide) rfl rfl rfl (by decide +kernel) rfl rfl ?_
      refine x_aload_n hO dX1_copyFrom_114 rfl rfl ?_
      refine x_aload_n hO dX1_copyFrom_115 rfl rfl ?_
      refine x_getI (T := TX1) (j := 9) hO dX1_copyFrom_116 flX1_40 (by decide) rfl rfl (by decide) rfl rfl ?_
      refine x_put (T := TX1) (j := 9) (ty := .int) hO dX1_copyFrom_119 flX1_40 (by decide) rfl rfl (by decide) rfl rfl rfl (by decide +kernel) rfl rfl ?_
      refine x_aload_n hO dX1_copyFrom_122 rfl rfl ?_
      refine x_aload_n hO dX1_copyFrom_123 rfl rfl ?_
      refine x_getI (T := TX1) (j := 10) hO dX1_copyFrom_124 flX1_43 (by decide) rfl rfl (by decide) rfl rfl ?_
      refine x_put (T := TX1) (j := 10) (ty := .int) hO dX1_copyFrom_127 flX1_43 (by decide) rfl rfl (by decide) rfl rfl rfl (by decide +kernel) rfl rfl ?_
      refine x_aload_n hO dX1_copyFrom_130 rfl rfl ?_
      refine x_aload_n hO dX1_copyFrom_131 rfl rfl ?_
      refine x_getI (T := TX1) (j := 11) hO dX1_copyFrom_132 flX1_46 (by decide) rfl rfl (by decide) rfl rfl ?_
      refine x_put (T := TX1) (j := 11) (ty := .int) hO dX1_copyFrom_135 flX1_46 (by decide) rfl rfl (by decide) rfl rfl rfl (by decide +kernel) rfl rfl ?_
      refine x_vret hO hR dX1_copyFrom_138 ?_
      have gp : M1 24 = M 24 := h1.2 _ (by omega)
      have gq : M1 16 = M 16 := h1.2 _ (by omega)
      refine ⟨cA_ext (fun s hs => ?_) (fun s hs => cA_ge hs), all5 ?_ ?_ ?_ ?_ ?_, fun k hk => ?_⟩
      · refine cA_row hs hs (fun w hw => ?_)
        have e := h1.1 w hw s hs
        have n0 : ¬ 24 + 1 + w = 24 := by omega
        simp only [xset_at, n0, if_false]
        exact e
      · simp [xset_at, gp, gq]
      · simp [xset_at, gp, gq]
      · simp [xset_at, gp, gq]
      · simp [xset_at, gp, gq]
      · simp [xset_at, gp, gq]
      · have n0 : ¬ k = 24 := by omega
        funext a
        simp only [xset_at, n0, if_false]
        rw [h1.2 k (by omega)]
    · exact absurd (Int32.le_refl _) c
  · intro i d hd ih M1 h1
    have hi : i < 32 := by omega
    have g17 : M1 17 = M 17 := h1.2 _ (by omega)
    have g18 : M1 18 = M 18 := h1.2 _ (by omega)
    have g19 : M1 19 = M 19 := h1.2 _ (by omega)
    have g20 : M1 20 = M 20 := h1.2 _ (by omega)
    have g21 : M1 21 = M 21 := h1.2 _ (by omega)
    have g22 : M1 22 = M 22 := h1.2 _ (by omega)
    have g23 : M1 23 = M 23 := h1.2 _ (by omega)
    refine x_iload_n hO dX1_copyFrom_2 rfl rfl ?_
    refine x_bipush (v := nI 32) hO dX1_copyFrom_3 rfl ?_
    refine x_icmp_ge (tgt := 98) hO dX1_copyFrom_5 (by decide) (fun c => ?_) (fun c => ?_)
    · exact absurd c (nI_ge hi (by decide))
    · refine x_aload_n hO dX1_copyFrom_8 rfl rfl ?_
      refine x_getR (T := TX1) (j := 0) hO dX1_copyFrom_9 flX1_9 (by decide) rfl rfl (by decide) rfl rfl ?_
      refine x_iload_n hO dX1_copyFrom_12 rfl rfl ?_
      refine x_aload_n hO dX1_copyFrom_13 rfl rfl ?_
      refine x_getR (T := TX1) (j := 0) hO dX1_copyFrom_14 flX1_9 (by decide) rfl rfl (by decide) rfl rfl ?_
      refine x_iload_n hO dX1_copyFrom_17 rfl rfl ?_
      refine x_iald hO (by decide) rfl (by decide) (rfl) (hi) dX1_copyFrom_18 ?_
      refine x_iast hO (by decide) rfl (by decide) (rfl) (hi) dX1_copyFrom_19 ?_
      refine x_aload_n hO dX1_copyFrom_20 rfl rfl ?_
      refine x_getR (T := TX1) (j := 1) hO dX1_copyFrom_21 flX1_15 (by decide) rfl rfl (by decide) rfl rfl ?_
      refine x_iload_n hO dX1_copyFrom_24 rfl rfl ?_
      refine x_aload_n hO dX1_copyFrom_25 rfl rfl ?_
      refine x_getR (T := TX1) (j := 1) hO dX1_copyFrom_26 flX1_15 (by decide) rfl rfl (by decide) rfl rfl ?_
      refine x_iload_n hO dX1_copyFrom_29 rfl rfl ?_
      refine x_iald hO (by decide) rfl (by decide) (rfl) (hi) dX1_copyFrom_30 ?_
      refine x_iast hO (by decide) rfl (by decide) (rfl) (hi) dX1_copyFrom_31 ?_
      refine x_aload_n hO dX1_copyFrom_32 rfl rfl ?_
      refine x_getR (T := TX1) (j := 2) hO dX1_copyFrom_33 flX1_18 (by decide) rfl rfl (by decide) rfl rfl ?_
      refine x_iload_n hO dX1_copyFrom_36 rfl rfl ?_
      refine x_aload_n hO dX1_copyFrom_37 rfl rfl ?_
      refine x_getR (T := TX1) (j := 2) hO dX1_copyFrom_38 flX1_18 (by decide) rfl rfl (by decide) rfl rfl ?_
      refine x_iload_n hO dX1_copyFrom_41 rfl rfl ?_
      refine x_iald hO (by decide) rfl (by decide) (rfl) (hi) dX1_copyFrom_42 ?_
      refine x_iast hO (by decide) rfl (by decide) (rfl) (hi) dX1_copyFrom_43 ?_
      refine x_aload_n hO dX1_copyFrom_44 rfl rfl ?_
      refine x_getR (T := TX1) (j := 3) hO dX1_copyFrom_45 flX1_21 (by decide) rfl rfl (by decide) rfl rfl ?_
      refine x_iload_n hO dX1_copyFrom_48 rfl rfl ?_
      refine x_aload_n hO dX1_copyFrom_49 rfl rfl ?_
      refine x_getR (T := TX1) (j := 3) hO dX1_copyFrom_50 flX1_21 (by decide) rfl rfl (by decide) rfl rfl ?_
      refine x_iload_n hO dX1_copyFrom_53 rfl rfl ?_
      refine x_iald hO (by decide) rfl (by decide) (rfl) (hi) dX1_copyFrom_54 ?_
      refine x_iast hO (by decide) rfl (by decide) (rfl) (hi) dX1_copyFrom_55 ?_
      refine x_aload_n hO dX1_copyFrom_56 rfl rfl ?_
      refine x_getR (T := TX1) (j := 4) hO dX1_copyFrom_57 flX1_24 (by decide) rfl rfl (by decide) rfl rfl ?_
      refine x_iload_n hO dX1_copyFrom_60 rfl rfl ?_
      refine x_aload_n hO dX1_copyFrom_61 rfl rfl ?_
      refine x_getR (T := TX1) (j := 4) hO dX1_copyFrom_62 flX1_24 (by decide) rfl rfl (by decide) rfl rfl ?_
      refine x_iload_n hO dX1_copyFrom_65 rfl rfl ?_
      refine x_iald hO (by decide) rfl (by decide) (rfl) (hi) dX1_copyFrom_66 ?_
      refine x_iast hO (by decide) rfl (by decide) (rfl) (hi) dX1_copyFrom_67 ?_
      refine x_aload_n hO dX1_copyFrom_68 rfl rfl ?_
      refine x_getR (T := TX1) (j := 5) hO dX1_copyFrom_69 flX1_27 (by decide) rfl rfl (by decide) rfl rfl ?_
      refine x_iload_n hO dX1_copyFrom_72 rfl rfl ?_
      refine x_aload_n hO dX1_copyFrom_73 rfl rfl ?_
      refine x_getR (T := TX1) (j := 5) hO dX1_copyFrom_74 flX1_27 (by decide) rfl rfl (by decide) rfl rfl ?_
      refine x_iload_n hO dX1_copyFrom_77 rfl rfl ?_
      refine x_iald hO (by decide) rfl (by decide) (rfl) (hi) dX1_copyFrom_78 ?_
      refine x_iast hO (by decide) rfl (by decide) (rfl) (hi) dX1_copyFrom_79 ?_
      refine x_aload_n hO dX1_copyFrom_80 rfl rfl ?_
      refine x_getR (T := TX1) (j := 6) hO dX1_copyFrom_81 flX1_30 (by decide) rfl rfl (by decide) rfl rfl ?_
      refine x_iload_n hO dX1_copyFrom_84 rfl rfl ?_
      refine x_aload_n hO dX1_copyFrom_85 rfl rfl ?_
      refine x_getR (T := TX1) (j := 6) hO dX1_copyFrom_86 flX1_30 (by decide) rfl rfl (by decide) rfl rfl ?_
      refine x_iload_n hO dX1_copyFrom_89 rfl rfl ?_
      refine x_iald hO (by decide) rfl (by decide) (rfl) (hi) dX1_copyFrom_90 ?_
      refine x_iast hO (by decide) rfl (by decide) (rfl) (hi) dX1_copyFrom_91 ?_
      refine x_iinc hO dX1_copyFrom_92 rfl (by first | exact xinc_n _ | rfl) rfl hN ?_
      refine x_goto (tgt := 2) hO dX1_copyFrom_95 (by decide) ?_
      refine ih _ (cpR_s h1 (all7 ?_ ?_ ?_ ?_ ?_ ?_ ?_) (all7 ?_ ?_ ?_ ?_ ?_ ?_ ?_) (fun k hk => ?_))
      all_goals first
        | (simp [xset_at, g17, g18, g19, g20, g21, g22, g23]; done)
        | (intro s hs; simp [xset_at, hs]; done)
        | skip
      have h25 : ¬ k = 25 := by omega
      have h26 : ¬ k = 26 := by omega
      have h27 : ¬ k = 27 := by omega
      have h28 : ¬ k = 28 := by omega
      have h29 : ¬ k = 29 := by omega
      have h30 : ¬ k = 30 := by omega
      have h31 : ¬ k = 31 := by omega
      funext a
      simp [xset_at, h25, h26, h27, h28, h29, h30, h31]
theorem k_copyFrom_32_16 (U : xP) (M : xM) : xMetV U mX1_copyFrom [.inr 32, .inr 16] M (fun M' => cpSt M M' 32 16) := by
  refine xMetV.of (L := [some (.inr 32), some (.inr 16), none]) fX1_copyFrom rfl rfl (Nat.le_of_ble_eq_true rfl) (fun G hN hO hR => ?_)
  have hN : G.2.2.2.2.2.2.2.2.2.2.1 = 3 := hN
  have hO : xOK U G RX1 cX1_copyFrom 0 := hO
  refine x_iconst (v := nI 0) hO dX1_copyFrom_0 rfl ?_
  refine x_istore_n (n := 3) hO dX1_copyFrom_1 rfl rfl (by decide) hN ?_
  refine upd_ind (P := fun i _ => ∀ M1, cpR M M1 32 16 i → XW U G 2 [some (.inr 32), some (.inr 16), some (.inl (nI i))] [] M1) 32 ?_ ?_ 32 0 rfl M ⟨fun w _ s hs => by omega, fun k _ => rfl⟩
  · intro M1 h1
    refine x_iload_n hO dX1_copyFrom_2 rfl rfl ?_
    refine x_bipush (v := nI 32) hO dX1_copyFrom_3 rfl ?_
    refine x_icmp_ge (tgt := 98) hO dX1_copyFrom_5 (by decide) (fun c => ?_) (fun c => ?_)
    · refine x_aload_n hO dX1_copyFrom_98 rfl rfl ?_
      refine x_aload_n hO dX1_copyFrom_99 rfl rfl ?_
      refine x_getI (T := TX1) (j := 7) hO dX1_copyFrom_100 flX1_33 (by decide) rfl rfl (by decide) rfl rfl ?_
      refine x_put (T := TX1) (j := 7) (ty := .int) hO dX1_copyFrom_103 flX1_33 (by decide) rfl rfl (by decide) rfl rfl rfl (by decide +kernel) rfl rfl ?_
      refine x_aload_n hO dX1_copyFrom_106 rfl rfl ?_
      refine x_aload_n hO dX1_copyFrom_107 rfl rfl ?_
      refine x_getI (T := TX1) (j := 8) hO dX1_copyFrom_108 flX1_37 (by decide) rfl rfl (by decide) rfl rfl ?_
      refine x_put (T := TX1) (j := 8) (ty := .int) hO dX1_copyFrom_111 flX1_37 (by decide) rfl rfl (by decide) rfl rfl rfl (by decide +kernel) rfl rfl ?_
      refine x_aload_n hO dX1_copyFrom_114 rfl rfl ?_
      refine x_aload_n hO dX1_copyFrom_115 rfl rfl ?_
      refine x_getI (T := TX1) (j := 9) hO dX1_copyFrom_116 flX1_40 (by decide) rfl rfl (by decide) rfl rfl ?_
      refine x_put (T := TX1) (j := 9) (ty := .int) hO dX1_copyFrom_119 flX1_40 (by decide) rfl rfl (by decide) rfl rfl rfl (by decide +kernel) rfl rfl ?_
      refine x_aload_n hO dX1_copyFrom_122 rfl rfl ?_
      refine x_aload_n hO dX1_copyFrom_123 rfl rfl ?_
      refine x_getI (T := TX1) (j := 10) hO dX1_copyFrom_124 flX1_43 (by decide) rfl rfl (by decide) rfl rfl ?_
      refine x_put (T := TX1) (j := 10) (ty := .int) hO dX1_copyFrom_127 flX1_43 (by decide) rfl rfl (by decide) rfl rfl rfl (by decide +kernel) rfl rfl ?_
      refine x_aload_n hO dX1_copyFrom_130 rfl rfl ?_
      refine x_aload_n hO dX1_copyFrom_131 rfl rfl ?_
      refine x_getI (T := TX1) (j := 11) hO dX1_copyFrom_132 flX1_46 (by decide) rfl rfl (by decide) rfl rfl ?_
      refine x_put (T := TX1) (j := 11) (ty := .int) hO dX1_copyFrom_135 flX1_46 (by decide) rfl rfl (by decide) rfl rfl rfl (by decide +kernel) rfl rfl ?_
      refine x_vret hO hR dX1_copyFrom_138 ?_
      have gp : M1 32 = M 32 := h1.2 _ (by omega)
      have gq : M1 16 = M 16 := h1.2 _ (by omega)
      refine ⟨cA_ext (fun s hs => ?_) (fun s hs => cA_ge hs), all5 ?_ ?_ ?_ ?_ ?_, fun k hk => ?_⟩
      · refine cA_row hs hs (fun w hw => ?_)
        have e := h1.1 w hw s hs
        have n0 : ¬ 32 + 1 + w = 32 := by omega
        simp only [xset_at, n0, if_false]
        exact e
      · simp [xset_at, gp, gq]
      · simp [xset_at, gp, gq]
      · simp [xset_at, gp, gq]
      · simp [xset_at, gp, gq]
      · simp [xset_at, gp, gq]
      · have n0 : ¬ k = 32 := by omega
        funext a
        simp only [xset_at, n0, if_false]
        rw [h1.2 k (by omega)]
    · exact absurd (Int32.le_refl _) c
  · intro i d hd ih M1 h1
    have hi : i < 32 := by omega
    have g17 : M1 17 = M 17 := h1.2 _ (by omega)
    have g18 : M1 18 = M 18 := h1.2 _ (by omega)
    have g19 : M1 19 = M 19 := h1.2 _ (by omega)
    have g20 : M1 20 = M 20 := h1.2 _ (by omega)
    have g21 : M1 21 = M 21 := h1.2 _ (by omega)
    have g22 : M1 22 = M 22 := h1.2 _ (by omega)
    have g23 : M1 23 = M 23 := h1.2 _ (by omega)
    refine x_iload_n hO dX1_copyFrom_2 rfl rfl ?_
    refine x_bipush (v := nI 32) hO dX1_copyFrom_3 rfl ?_
    refine x_icmp_ge (tgt := 98) hO dX1_copyFrom_5 (by decide) (fun c => ?_) (fun c => ?_)
    · exact absurd c (nI_ge hi (by decide))
    · refine x_aload_n hO dX1_copyFrom_8 rfl rfl ?_
      refine x_getR (T := TX1) (j := 0) hO dX1_copyFrom_9 flX1_9 (by decide) rfl rfl (by decide) rfl rfl ?_
      refine x_iload_n hO dX1_copyFrom_12 rfl rfl ?_
      refine x_aload_n hO dX1_copyFrom_13 rfl rfl ?_
      refine x_getR (T := TX1) (j := 0) hO dX1_copyFrom_14 flX1_9 (by decide) rfl rfl (by decide) rfl rfl ?_
      refine x_iload_n hO dX1_copyFrom_17 rfl rfl ?_
      refine x_iald hO (by decide) rfl (by decide) (rfl) (hi) dX1_copyFrom_18 ?_
      refine x_iast hO (by decide) rfl (by decide) (rfl) (hi) dX1_copyFrom_19 ?_
      refine x_aload_n hO dX1_copyFrom_20 rfl rfl ?_
      refine x_getR (T := TX1) (j := 1) hO dX1_copyFrom_21 flX1_15 (by decide) rfl rfl (by decide) rfl rfl ?_
      refine x_iload_n hO dX1_copyFrom_24 rfl rfl ?_
      refine x_aload_n hO dX1_copyFrom_25 rfl rfl ?_
      refine x_getR (T := TX1) (j := 1) hO dX1_copyFrom_26 flX1_15 (by decide) rfl rfl (by decide) rfl rfl ?_
      refine x_iload_n hO dX1_copyFrom_29 rfl rfl ?_
      refine x_iald hO (by decide) rfl (by decide) (rfl) (hi) dX1_copyFrom_30 ?_
      refine x_iast hO (by decide) rfl (by decide) (rfl) (hi) dX1_copyFrom_31 ?_
      refine x_aload_n hO dX1_copyFrom_32 rfl rfl ?_
      refine x_getR (T := TX1) (j := 2) hO dX1_copyFrom_33 flX1_18 (by decide) rfl rfl (by decide) rfl rfl ?_
      refine x_iload_n hO dX1_copyFrom_36 rfl rfl ?_
      refine x_aload_n hO dX1_copyFrom_37 rfl rfl ?_
      refine x_getR (T := TX1) (j := 2) hO dX1_copyFrom_38 flX1_18 (by decide) rfl rfl (by decide) rfl rfl ?_
      refine x_iload_n hO dX1_copyFrom_41 rfl rfl ?_
      refine x_iald hO (by decide) rfl (by decide) (rfl) (hi) dX1_copyFrom_42 ?_
      refine x_iast hO (by decide) rfl (by decide) (rfl) (hi) dX1_copyFrom_43 ?_
      refine x_aload_n hO dX1_copyFrom_44 rfl rfl ?_
      refine x_getR (T := TX1) (j := 3) hO dX1_copyFrom_45 flX1_21 (by decide) rfl rfl (by decide) rfl rfl ?_
      refine x_iload_n hO dX1_copyFrom_48 rfl rfl ?_
      refine x_aload_n hO dX1_copyFrom_49 rfl rfl ?_
      refine x_getR (T := TX1) (j := 3) hO dX1_copyFrom_50 flX1_21 (by decide) rfl rfl (by decide) rfl rfl ?_
      refine x_iload_n hO dX1_copyFrom_53 rfl rfl ?_
      refine x_iald hO (by decide) rfl (by decide) (rfl) (hi) dX1_copyFrom_54 ?_
      refine x_iast hO (by decide) rfl (by decide) (rfl) (hi) dX1_copyFrom_55 ?_
      refine x_aload_n hO dX1_copyFrom_56 rfl rfl ?_
      refine x_getR (T := TX1) (j := 4) hO dX1_copyFrom_57 flX1_24 (by decide) rfl rfl (by decide) rfl rfl ?_
      refine x_iload_n hO dX1_copyFrom_60 rfl rfl ?_
      refine x_aload_n hO dX1_copyFrom_61 rfl rfl ?_
      refine x_getR (T := TX1) (j := 4) hO dX1_copyFrom_62 flX1_24 (by decide) rfl rfl (by decide) rfl rfl ?_
      refine x_iload_n hO dX1_copyFrom_65 rfl rfl ?_
      refine x_iald hO (by decide) rfl (by decide) (rfl) (hi) dX1_copyFrom_66 ?_
      refine x_iast hO (by decide) rfl (by decide) (rfl) (hi) dX1_copyFrom_67 ?_
      refine x_aload_n hO dX1_copyFrom_68 rfl rfl ?_
      refine x_getR (T := TX1) (j := 5) hO dX1_copyFrom_69 flX1_27 (by decide) rfl rfl (by decide) rfl rfl ?_
      refine x_iload_n hO dX1_copyFrom_72 rfl rfl ?_
      refine x_aload_n hO dX1_copyFrom_73 rfl rfl ?_
      refine x_getR (T := TX1) (j := 5) hO dX1_copyFrom_74 flX1_27 (by decide) rfl rfl (by decide) rfl rfl ?_
      refine x_iload_n hO dX1_copyFrom_77 rfl rfl ?_
      refine x_iald hO (by decide) rfl (by decide) (rfl) (hi) dX1_copyFrom_78 ?_
      refine x_iast hO (by decide) rfl (by decide) (rfl) (hi) dX1_copyFrom_79 ?_
      refine x_aload_n hO dX1_copyFrom_80 rfl rfl ?_
      refine x_getR (T := TX1) (j := 6) hO dX1_copyFrom_81 flX1_30 (by decide) rfl rfl (by decide) rfl rfl ?_
      refine x_iload_n hO dX1_copyFrom_84 rfl rfl ?_
      refine x_aload_n hO dX1_copyFrom_85 rfl rfl ?_
      refine x_getR (T := TX1) (j := 6) hO dX1_copyFrom_86 flX1_30 (by decide) rfl rfl (by decide) rfl rfl ?_
      refine x_iload_n hO dX1_copyFrom_89 rfl rfl ?_
      refine x_iald hO (by decide) rfl (by decide) (rfl) (hi) dX1_copyFrom_90 ?_
      refine x_iast hO (by decide) rfl (by decide) (rfl) (hi) dX1_copyFrom_91 ?_
      refine x_iinc hO dX1_copyFrom_92 rfl (by first | exact xinc_n _ | rfl) rfl hN ?_
      refine x_goto (tgt := 2) hO dX1_copyFrom_95 (by decide) ?_
      refine ih _ (cpR_s h1 (all7 ?_ ?_ ?_ ?_ ?_ ?_ ?_) (all7 ?_ ?_ ?_ ?_ ?_ ?_ ?_) (fun k hk => ?_))
      all_goals first
        | (simp [xset_at, g17, g18, g19, g20, g21, g22, g23]; done)
        | (intro s hs; simp [xset_at, hs]; done)
        | skip
      have h33 : ¬ k = 33 := by omega
      have h34 : ¬ k = 34 := by omega
      have h35 : ¬ k = 35 := by omega
      have h36 : ¬ k = 36 := by omega
      have h37 : ¬ k = 37 := by omega
      have h38 : ¬ k = 38 := by omega
      have h39 : ¬ k = 39 := by omega
      funext a
      simp [xset_at, h33, h34, h35, h36, h37, h38, h39]
theorem k_copyFrom_40_16 (U : xP) (M : xM) : xMetV U mX1_copyFrom [.inr 40, .inr 16] M (fun M' => cpSt M M' 40 16) := by
  refine xMetV.of (L := [some (.inr 40), some (.inr 16), none]) fX1_copyFrom rfl rfl (Nat.le_of_ble_eq_true rfl) (fun G hN hO hR => ?_)
  have hN : G.2.2.2.2.2.2.2.2.2.2.1 = 3 := hN
  have hO : xOK U G RX1 cX1_copyFrom 0 := hO
  refine x_iconst (v := nI 0) hO dX1_copyFrom_0 rfl ?_
  refine x_istore_n (n := 3) hO dX1_copyFrom_1 rfl rfl (by decide) hN ?_
  refine upd_ind (P := fun i _ => ∀ M1, cpR M M1 40 16 i → XW U G 2 [some (.inr 40), some (.inr 16), some (.inl (nI i))] [] M1) 32 ?_ ?_ 32 0 rfl M ⟨fun w _ s hs => by omega, fun k _ => rfl⟩
  · intro M1 h1
    refine x_iload_n hO dX1_copyFrom_2 rfl rfl ?_
    refine x_bipush (v := nI 32) hO dX1_copyFrom_3 rfl ?_
    refine x_icmp_ge (tgt := 98) hO dX1_copyFrom_5 (by decide) (fun c => ?_) (fun c => ?_)
    · refine x_aload_n hO dX1_copyFrom_98 rfl rfl ?_
      refine x_aload_n hO dX1_copyFrom_99 rfl rfl ?_
      refine x_getI (T := TX1) (j := 7) hO dX1_copyFrom_100 flX1_33 (by decide) rfl rfl (by decide) rfl rfl ?_
      refine x_put (T := TX1) (j := 7) (ty := .int) hO dX1_copyFrom_103 flX1_33 (by decide) rfl rfl (by decide) rfl rfl rfl (by decide +kernel) rfl rfl ?_
      refine x_aload_n hO dX1_copyFrom_106 rfl rfl ?_
      refine x_aload_n hO dX1_copyFrom_107 rfl rfl ?_
      refine x_getI (T := TX1) (j := 8) hO dX1_copyFrom_108 flX1_37 (by decide) rfl rfl (by decide) rfl rfl ?_
      refine x_put (T := TX1) (j := 8) (ty := .int) hO dX1_copyFrom_111 flX1_37 (by decide) rfl rfl (by decide) rfl rfl rfl (by decide +kernel) rfl rfl ?_
      refine x_aload_n hO dX1_copyFrom_114 rfl rfl ?_
      refine x_aload_n hO dX1_copyFrom_115 rfl rfl ?_
      refine x_getI (T := TX1) (j := 9) hO dX1_copyFrom_116 flX1_40 (by decide) rfl rfl (by decide) rfl rfl ?_
      refine x_put (T := TX1) (j := 9) (ty := .int) hO dX1_copyFrom_119 flX1_40 (by decide) rfl rfl (by decide) rfl rfl rfl (by decide +kernel) rfl rfl ?_
      refine x_aload_n hO dX1_copyFrom_122 rfl rfl ?_
      refine x_aload_n hO dX1_copyFrom_123 rfl rfl ?_
      refine x_getI (T := TX1) (j := 10) hO dX1_copyFrom_124 flX1_43 (by decide) rfl rfl (by decide) rfl rfl ?_
      refine x_put (T := TX1) (j := 10) (ty := .int) hO dX1_copyFrom_127 flX1_43 (by decide) rfl rfl (by decide) rfl rfl rfl (by decide +kernel) rfl rfl ?_
      refine x_aload_n hO dX1_copyFrom_130 rfl rfl ?_
      refine x_aload_n hO dX1_copyFrom_131 rfl rfl ?_
      refine x_getI (T := TX1) (j := 11) hO dX1_copyFrom_132 flX1_46 (by decide) rfl rfl (by decide) rfl rfl ?_
      refine x_put (T := TX1) (j := 11) (ty := .int) hO dX1_copyFrom_135 flX1_46 (by decide) rfl rfl (by decide) rfl rfl rfl (by decide +kernel) rfl rfl ?_
      refine x_vret hO hR dX1_copyFrom_138 ?_
      have gp : M1 40 = M 40 := h1.2 _ (by omega)
      have gq : M1 16 = M 16 := h1.2 _ (by omega)
      refine ⟨cA_ext (fun s hs => ?_) (fun s hs => cA_ge hs), all5 ?_ ?_ ?_ ?_ ?_, fun k hk => ?_⟩
      · refine cA_row hs hs (fun w hw => ?_)
        have e := h1.1 w hw s hs
        have n0 : ¬ 40 + 1 + w = 40 := by omega
        simp only [xset_at, n0, if_false]
        exact e
      · simp [xset_at, gp, gq]
      · simp [xset_at, gp, gq]
      · simp [xset_at, gp, gq]
      · simp [xset_at, gp, gq]
      · simp [xset_at, gp, gq]
      · have n0 : ¬ k = 40 := by omega
        funext a
        simp only [xset_at, n0, if_false]
        rw [h1.2 k (by omega)]
    · exact absurd (Int32.le_refl _) c
  · intro i d hd ih M1 h1
    have hi : i < 32 := by omega
    have g17 : M1 17 = M 17 := h1.2 _ (by omega)
    have g18 : M1 18 = M 18 := h1.2 _ (by omega)
    have g19 : M1 19 = M 19 := h1.2 _ (by omega)
    have g20 : M1 20 = M 20 := h1.2 _ (by omega)
    have g21 : M1 21 = M 21 := h1.2 _ (by omega)
    have g22 : M1 22 = M 22 := h1.2 _ (by omega)
    have g23 : M1 23 = M 23 := h1.2 _ (by omega)
    refine x_iload_n hO dX1_copyFrom_2 rfl rfl ?_
    refine x_bipush (v := nI 32) hO dX1_copyFrom_3 rfl ?_
    refine x_icmp_ge (tgt := 98) hO dX1_copyFrom_5 (by decide) (fun c => ?_) (fun c => ?_)
    · exact absurd c (nI_ge hi (by decide))
    · refine x_aload_n hO dX1_copyFrom_8 rfl rfl ?_
      refine x_getR (T := TX1) (j := 0) hO dX1_copyFrom_9 flX1_9 (by decide) rfl rfl (by decide) rfl rfl ?_
      refine x_iload_n hO dX1_copyFrom_12 rfl rfl ?_
      refine x_aload_n hO dX1_copyFrom_13 rfl rfl ?_
      refine x_getR (T := TX1) (j := 0) hO dX1_copyFrom_14 flX1_9 (by decide) rfl rfl (by decide) rfl rfl ?_
      refine x_iload_n hO dX1_copyFrom_17 rfl rfl ?_
      refine x_iald hO (by decide) rfl (by decide) (rfl) (hi) dX1_copyFrom_18 ?_
      refine x_iast hO (by decide) rfl (by decide) (rfl) (hi) dX1_copyFrom_19 ?_
      refine x_aload_n hO dX1_copyFrom_20 rfl rfl ?_
      refine x_getR (T := TX1) (j := 1) hO dX1_copyFrom_21 flX1_15 (by decide) rfl rfl (by decide) rfl rfl ?_
      refine x_iload_n hO dX1_copyFrom_24 rfl rfl ?_
      refine x_aload_n hO dX1_copyFrom_25 rfl rfl ?_
      refine x_getR (T := TX1) (j := 1) hO dX1_copyFrom_26 flX1_15 (by decide) rfl rfl (by decide) rfl rfl ?_
      refine x_iload_n hO dX1_copyFrom_29 rfl rfl ?_
      refine x_iald hO (by decide) rfl (by decide) (rfl) (hi) dX1_copyFrom_30 ?_
      refine x_iast hO (by decide) rfl (by decide) (rfl) (hi) dX1_copyFrom_31 ?_
      refine x_aload_n hO dX1_copyFrom_32 rfl rfl ?_
      refine x_getR (T := TX1) (j := 2) hO dX1_copyFrom_33 flX1_18 (by decide) rfl rfl (by decide) rfl rfl ?_
      refine x_iload_n hO dX1_copyFrom_36 rfl rfl ?_
      refine x_aload_n hO dX1_copyFrom_37 rfl rfl ?_
      refine x_getR (T := TX1) (j := 2) hO dX1_copyFrom_38 flX1_18 (by decide) rfl rfl (by decide) rfl rfl ?_
      refine x_iload_n hO dX1_copyFrom_41 rfl rfl ?_
      refine x_iald hO (by decide) rfl (by decide) (rfl) (hi) dX1_copyFrom_42 ?_
      refine x_iast hO (by decide) rfl (by decide) (rfl) (hi) dX1_copyFrom_43 ?_
      refine x_aload_n hO dX1_copyFrom_44 rfl rfl ?_
      refine x_getR (T := TX1) (j := 3) hO dX1_copyFrom_45 flX1_21 (by decide) rfl rfl (by decide) rfl rfl ?_
      refine x_iload_n hO dX1_copyFrom_48 rfl rfl ?_
      refine x_aload_n hO dX1_copyFrom_49 rfl rfl ?_
      refine x_getR (T := TX1) (j := 3) hO dX1_copyFrom_50 flX1_21 (by decide) rfl rfl (by decide) rfl rfl ?_
      refine x_iload_n hO dX1_copyFrom_53 rfl rfl ?_
      refine x_iald hO (by decide) rfl (by decide) (rfl) (hi) dX1_copyFrom_54 ?_
      refine x_iast hO (by decide) rfl (by decide) (rfl) (hi) dX1_copyFrom_55 ?_
      refine x_aload_n hO dX1_copyFrom_56 rfl rfl ?_
      refine x_getR (T := TX1) (j := 4) hO dX1_copyFrom_57 flX1_24 (by decide) rfl rfl (by decide) rfl rfl ?_
      refine x_iload_n hO dX1_copyFrom_60 rfl rfl ?_
      refine x_aload_n hO dX1_copyFrom_61 rfl rfl ?_
      refine x_getR (T := TX1) (j := 4) hO dX1_copyFrom_62 flX1_24 (by decide) rfl rfl (by decide) rfl rfl ?_
      refine x_iload_n hO dX1_copyFrom_65 rfl rfl ?_
      refine x_iald hO (by decide) rfl (by decide) (rfl) (hi) dX1_copyFrom_66 ?_
      refine x_iast hO (by decide) rfl (by decide) (rfl) (hi) dX1_copyFrom_67 ?_
      refine x_aload_n hO dX1_copyFrom_68 rfl rfl ?_
      refine x_getR (T := TX1) (j := 5) hO dX1_copyFrom_69 flX1_27 (by decide) rfl rfl (by decide) rfl rfl ?_
      refine x_iload_n hO dX1_copyFrom_72 rfl rfl ?_
      refine x_aload_n hO dX1_copyFrom_73 rfl rfl ?_
      refine x_getR (T := TX1) (j := 5) hO dX1_copyFrom_74 flX1_27 (by decide) rfl rfl (by decide) rfl rfl ?_
      refine x_iload_n hO dX1_copyFrom_77 rfl rfl ?_
      refine x_iald hO (by decide) rfl (by decide) (rfl) (hi) dX1_copyFrom_78 ?_
      refine x_iast hO (by decide) rfl (by decide) (rfl) (hi) dX1_copyFrom_79 ?_
      refine x_aload_n hO dX1_copyFrom_80 rfl rfl ?_
      refine x_getR (T := TX1) (j := 6) hO dX1_copyFrom_81 flX1_30 (by decide) rfl rfl (by decide) rfl rfl ?_
      refine x_iload_n hO dX1_copyFrom_84 rfl rfl ?_
      refine x_aload_n hO dX1_copyFrom_85 rfl rfl ?_
      refine x_getR (T := TX1) (j := 6) hO dX1_copyFrom_86 flX1_30 (by decide) rfl rfl (by decide) rfl rfl ?_
      refine x_iload_n hO dX1_copyFrom_89 rfl rfl ?_
      refine x_iald hO (by decide) rfl (by decide) (rfl) (hi) dX1_copyFrom_90 ?_
      refine x_iast hO (by decide) rfl (by decide) (rfl) (hi) dX1_copyFrom_91 ?_
      refine x_iinc hO dX1_copyFrom_92 rfl (by first | exact xinc_n _ | rfl) rfl hN ?_
      refine x_goto (tgt := 2) hO dX1_copyFrom_95 (by decide) ?_
      refine ih _ (cpR_s h1 (all7 ?_ ?_ ?_ ?_ ?_ ?_ ?_) (all7 ?_ ?_ ?_ ?_ ?_ ?_ ?_) (fun k hk => ?_))
      all_goals first
        | (simp [xset_at, g17, g18, g19, g20, g21, g22, g23]; done)
        | (intro s hs; simp [xset_at, hs]; done)
        | skip
      have h41 : ¬ k = 41 := by omega
      have h42 : ¬ k = 42 := by omega
      have h43 : ¬ k = 43 := by omega
      have h44 : ¬ k = 44 := by omega
      have h45 : ¬ k = 45 := by omega
      have h46 : ¬ k = 46 := by omega
      have h47 : ¬ k = 47 := by omega
      funext a
      simp [xset_at, h41, h42, h43, h44, h45, h46, h47]
theorem k_copyFrom_48_16 (U : xP) (M : xM) : xMetV U mX1_copyFrom [.inr 48, .inr 16] M (fun M' => cpSt M M' 48 16) := by
  refine xMetV.of (L := [some (.inr 48), some (.inr 16), none]) fX1_copyFrom rfl rfl (Nat.le_of_ble_eq_true rfl) (fun G hN hO hR => ?_)
  have hN : G.2.2.2.2.2.2.2.2.2.2.1 = 3 := hN
  have hO : xOK U G RX1 cX1_copyFrom 0 := hO
  refine x_iconst (v := nI 0) hO dX1_copyFrom_0 rfl ?_
  refine x_istore_n (n := 3) hO dX1_copyFrom_1 rfl rfl (by decide) hN ?_
  refine upd_ind (P := fun i _ => ∀ M1, cpR M M1 48 16 i → XW U G 2 [some (.inr 48), some (.inr 16), some (.inl (nI i))] [] M1) 32 ?_ ?_ 32 0 rfl M ⟨fun w _ s hs => by omega, fun k _ => rfl⟩
  · intro M1 h1
    refine x_iload_n hO dX1_copyFrom_2 rfl rfl ?_
    refine x_bipush (v := nI 32) hO dX1_copyFrom_3 rfl ?_
    refine x_icmp_ge (tgt := 98) hO dX1_copyFrom_5 (by decide) (fun c => ?_) (fun c => ?_)
    · refine x_aload_n hO dX1_copyFrom_98 rfl rfl ?_
      refine x_aload_n hO dX1_copyFrom_99 rfl rfl ?_
      refine x_getI (T := TX1) (j := 7) hO dX1_copyFrom_100 flX1_33 (by decide) rfl rfl (by decide) rfl rfl ?_
      refine x_put (T := TX1) (j := 7) (ty := .int) hO dX1_copyFrom_103 flX1_33 (by decide) rfl rfl (by decide) rfl rfl rfl (by decide +kernel) rfl rfl ?_
      refine x_aload_n hO dX1_copyFrom_106 rfl rfl ?_
      refine x_aload_n hO dX1_copyFrom_107 rfl rfl ?_
      refine x_getI (T := TX1) (j := 8) hO dX1_copyFrom_108 flX1_37 (by decide) rfl rfl (by decide) rfl rfl ?_
      refine x_put (T := TX1) (j := 8) (ty := .int) hO dX1_copyFrom_111 flX1_37 (by decide) rfl rfl (by decide) rfl rfl rfl (by decide +kernel) rfl rfl ?_
      refine x_aload_n hO dX1_copyFrom_114 rfl rfl ?_
      refine x_aload_n hO dX1_copyFrom_115 rfl rfl ?_
      refine x_getI (T := TX1) (j := 9) hO dX1_copyFrom_116 flX1_40 (by decide) rfl rfl (by decide) rfl rfl ?_
      refine x_put (T := TX1) (j := 9) (ty := .int) hO dX1_copyFrom_119 flX1_40 (by decide) rfl rfl (by decide) rfl rfl rfl (by decide +kernel) rfl rfl ?_
      refine x_aload_n hO dX1_copyFrom_122 rfl rfl ?_
      refine x_aload_n hO dX1_copyFrom_123 rfl rfl ?_
      refine x_getI (T := TX1) (j := 10) hO dX1_copyFrom_124 flX1_43 (by decide) rfl rfl (by decide) rfl rfl ?_
      refine x_put (T := TX1) (j := 10) (ty := .int) hO dX1_copyFrom_127 flX1_43 (by decide) rfl rfl (by decide) rfl rfl rfl (by decide +kernel) rfl rfl ?_
      refine x_aload_n hO dX1_copyFrom_130 rfl rfl ?_
      refine x_aload_n hO dX1_copyFrom_131 rfl rfl ?_
      refine x_getI (T := TX1) (j := 11) hO dX1_copyFrom_132 flX1_46 (by decide) rfl rfl (by decide) rfl rfl ?_
      refine x_put (T := TX1) (j := 11) (ty := .int) hO dX1_copyFrom_135 flX1_46 (by decide) rfl rfl (by decide) rfl rfl rfl (by decide +kernel) rfl rfl ?_
      refine x_vret hO hR dX1_copyFrom_138 ?_
      have gp : M1 48 = M 48 := h1.2 _ (by omega)
      have gq : M1 16 = M 16 := h1.2 _ (by omega)
      refine ⟨cA_ext (fun s hs => ?_) (fun s hs => cA_ge hs), all5 ?_ ?_ ?_ ?_ ?_, fun k hk => ?_⟩
      · refine cA_row hs hs (fun w hw => ?_)
        have e := h1.1 w hw s hs
        have n0 : ¬ 48 + 1 + w = 48 := by omega
        simp only [xset_at, n0, if_false]
        exact e
      · simp [xset_at, gp, gq]
      · simp [xset_at, gp, gq]
      · simp [xset_at, gp, gq]
      · simp [xset_at, gp, gq]
      · simp [xset_at, gp, gq]
      · have n0 : ¬ k = 48 := by omega
        funext a
        simp only [xset_at, n0, if_false]
        rw [h1.2 k (by omega)]
    · exact absurd (Int32.le_refl _) c
  · intro i d hd ih M1 h1
    have hi : i < 32 := by omega
    have g17 : M1 17 = M 17 := h1.2 _ (by omega)
    have g18 : M1 18 = M 18 := h1.2 _ (by omega)
    have g19 : M1 19 = M 19 := h1.2 _ (by omega)
    have g20 : M1 20 = M 20 := h1.2 _ (by omega)
    have g21 : M1 21 = M 21 := h1.2 _ (by omega)
    have g22 : M1 22 = M 22 := h1.2 _ (by omega)
    have g23 : M1 23 = M 23 := h1.2 _ (by omega)
    refine x_iload_n hO dX1_copyFrom_2 rfl rfl ?_
    refine x_bipush (v := nI 32) hO dX1_copyFrom_3 rfl ?_
    refine x_icmp_ge (tgt := 98) hO dX1_copyFrom_5 (by decide) (fun c => ?_) (fun c => ?_)
    · exact absurd c (nI_ge hi (by decide))
    · refine x_aload_n hO dX1_copyFrom_8 rfl rfl ?_
      refine x_getR (T := TX1) (j := 0) hO dX1_copyFrom_9 flX1_9 (by decide) rfl rfl (by decide) rfl rfl ?_
      refine x_iload_n hO dX1_copyFrom_12 rfl rfl ?_
      refine x_aload_n hO dX1_copyFrom_13 rfl rfl ?_
      refine x_getR (T := TX1) (j := 0) hO dX1_copyFrom_14 flX1_9 (by decide) rfl rfl (by decide) rfl rfl ?_
      refine x_iload_n hO dX1_copyFrom_17 rfl rfl ?_
      refine x_iald hO (by decide) rfl (by decide) (rfl) (hi) dX1_copyFrom_18 ?_
      refine x_iast hO (by decide) rfl (by decide) (rfl) (hi) dX1_copyFrom_19 ?_
      refine x_aload_n hO dX1_copyFrom_20 rfl rfl ?_
      refine x_getR (T := TX1) (j := 1) hO dX1_copyFrom_21 flX1_15 (by decide) rfl rfl (by decide) rfl rfl ?_
      refine x_iload_n hO dX1_copyFrom_24 rfl rfl ?_
      refine x_aload_n hO dX1_copyFrom_25 rfl rfl ?_
      refine x_getR (T := TX1) (j := 1) hO dX1_copyFrom_26 flX1_15 (by decide) rfl rfl (by decide) rfl rfl ?_
      refine x_iload_n hO dX1_copyFrom_29 rfl rfl ?_
      refine x_iald hO (by decide) rfl (by decide) (rfl) (hi) dX1_copyFrom_30 ?_
      refine x_iast hO (by decide) rfl (by decide) (rfl) (hi) dX1_copyFrom_31 ?_
      refine x_aload_n hO dX1_copyFrom_32 rfl rfl ?_
      refine x_getR (T := TX1) (j := 2) hO dX1_copyFrom_33 flX1_18 (by decide) rfl rfl (by decide) rfl rfl ?_
      refine x_iload_n hO dX1_copyFrom_36 rfl rfl ?_
      refine x_aload_n hO dX1_copyFrom_37 rfl rfl ?_
      refine x_getR (T := TX1) (j := 2) hO dX1_copyFrom_38 flX1_18 (by decide) rfl rfl (by decide) rfl rfl ?_
      refine x_iload_n hO dX1_copyFrom_41 rfl rfl ?_
      refine x_iald hO (by decide) rfl (by decide) (rfl) (hi) dX1_copyFrom_42 ?_
      refine x_iast hO (by decide) rfl (by decide) (rfl) (hi) dX1_copyFrom_43 ?_
      refine x_aload_n hO dX1_copyFrom_44 rfl rfl ?_
      refine x_getR (T := TX1) (j := 3) hO dX1_copyFrom_45 flX1_21 (by decide) rfl rfl (by decide) rfl rfl ?_
      refine x_iload_n hO dX1_copyFrom_48 rfl rfl ?_
      refine x_aload_n hO dX1_copyFrom_49 rfl rfl ?_
      refine x_getR (T := TX1) (j := 3) hO dX1_copyFrom_50 flX1_21 (by decide) rfl rfl (by decide) rfl rfl ?_
      refine x_iload_n hO dX1_copyFrom_53 rfl rfl ?_
      refine x_iald hO (by decide) rfl (by decide) (rfl) (hi) dX1_copyFrom_54 ?_
      refine x_iast hO (by decide) rfl (by decide) (rfl) (hi) dX1_copyFrom_55 ?_
      refine x_aload_n hO dX1_copyFrom_56 rfl rfl ?_
      refine x_getR (T := TX1) (j := 4) hO dX1_copyFrom_57 flX1_24 (by decide) rfl rfl (by decide) rfl rfl ?_
      refine x_iload_n hO dX1_copyFrom_60 rfl rfl ?_
      refine x_aload_n hO dX1_copyFrom_61 rfl rfl ?_
      refine x_getR (T := TX1) (j := 4) hO dX1_copyFrom_62 flX1_24 (by decide) rfl rfl (by decide) rfl rfl ?_
      refine x_iload_n hO dX1_copyFrom_65 rfl rfl ?_
      refine x_iald hO (by decide) rfl (by decide) (rfl) (hi) dX1_copyFrom_66 ?_
      refine x_iast hO (by decide) rfl (by decide) (rfl) (hi) dX1_copyFrom_67 ?_
      refine x_aload_n hO dX1_copyFrom_68 rfl rfl ?_
      refine x_getR (T := TX1) (j := 5) hO dX1_copyFrom_69 flX1_27 (by decide) rfl rfl (by decide) rfl rfl ?_
      refine x_iload_n hO dX1_copyFrom_72 rfl rfl ?_
      refine x_aload_n hO dX1_copyFrom_73 rfl rfl ?_
      refine x_getR (T := TX1) (j := 5) hO dX1_copyFrom_74 flX1_27 (by decide) rfl rfl (by decide) rfl rfl ?_
      refine x_iload_n hO dX1_copyFrom_77 rfl rfl ?_
      refine x_iald hO (by decide) rfl (by decide) (rfl) (hi) dX1_copyFrom_78 ?_
      refine x_iast hO (by decide) rfl (by decide) (rfl) (hi) dX1_copyFrom_79 ?_
      refine x_aload_n hO dX1_copyFrom_80 rfl rfl ?_
      refine x_getR (T := TX1) (j := 6) hO dX1_copyFrom_81 flX1_30 (by decide) rfl rfl (by decide) rfl rfl ?_
      refine x_iload_n hO dX1_copyFrom_84 rfl rfl ?_
      refine x_aload_n hO dX1_copyFrom_85 rfl rfl ?_
      refine x_getR (T := TX1) (j := 6) hO dX1_copyFrom_86 flX1_30 (by decide) rfl rfl (by decide) rfl rfl ?_
      refine x_iload_n hO dX1_copyFrom_89 rfl rfl ?_
      refine x_iald hO (by decide) rfl (by decide) (rfl) (hi) dX1_copyFrom_90 ?_
      refine x_iast hO (by decide) rfl (by decide) (rfl) (hi) dX1_copyFrom_91 ?_
      refine x_iinc hO dX1_copyFrom_92 rfl (by first | exact xinc_n _ | rfl) rfl hN ?_
      refine x_goto (tgt := 2) hO dX1_copyFrom_95 (by decide) ?_
      refine ih _ (cpR_s h1 (all7 ?_ ?_ ?_ ?_ ?_ ?_ ?_) (all7 ?_ ?_ ?_ ?_ ?_ ?_ ?_) (fun k hk => ?_))
      all_goals first
        | (simp [xset_at, g17, g18, g19, g20, g21, g22, g23]; done)
        | (intro s hs; simp [xset_at, hs]; done)
        | skip
      have h49 : ¬ k = 49 := by omega
      have h50 : ¬ k = 50 := by omega
      have h51 : ¬ k = 51 := by omega
      have h52 : ¬ k = 52 := by omega
      have h53 : ¬ k = 53 := by omega
      have h54 : ¬ k = 54 := by omega
      have h55 : ¬ k = 55 := by omega
      funext a
      simp [xset_at, h49, h50, h51, h52, h53, h54, h55]
theorem k_copyFrom_56_16 (U : xP) (M : xM) : xMetV U mX1_copyFrom [.inr 56, .inr 16] M (fun M' => cpSt M M' 56 16) := by
  refine xMetV.of (L := [some (.inr 56), some (.inr 16), none]) fX1_copyFrom rfl rfl (Nat.le_of_ble_eq_true rfl) (fun G hN hO hR => ?_)
  have hN : G.2.2.2.2.2.2.2.2.2.2.1 = 3 := hN
  have hO : xOK U G RX1 cX1_copyFrom 0 := hO
  refine x_iconst (v := nI 0) hO dX1_copyFrom_0 rfl ?_
  refine x_istore_n (n := 3) hO dX1_copyFrom_1 rfl rfl (by decide) hN ?_
  refine upd_ind (P := fun i _ => ∀ M1, cpR M M1 56 16 i → XW U G 2 [some (.inr 56), some (.inr 16), some (.inl (nI i))] [] M1) 32 ?_ ?_ 32 0 rfl M ⟨fun w _ s hs => by omega, fun k _ => rfl⟩
  · intro M1 h1
    refine x_iload_n hO dX1_copyFrom_2 rfl rfl ?_
    refine x_bipush (v := nI 32) hO dX1_copyFrom_3 rfl ?_
    refine x_icmp_ge (tgt := 98) hO dX1_copyFrom_5 (by decide) (fun c => ?_) (fun c => ?_)
    · refine x_aload_n hO dX1_copyFrom_98 rfl rfl ?_
      refine x_aload_n hO dX1_copyFrom_99 rfl rfl ?_
      refine x_getI (T := TX1) (j := 7) hO dX1_copyFrom_100 flX1_33 (by decide) rfl rfl (by decide) rfl rfl ?_
      refine x_put (T := TX1) (j := 7) (ty := .int) hO dX1_copyFrom_103 flX1_33 (by decide) rfl rfl (by decide) rfl rfl rfl (by decide +kernel) rfl rfl ?_
      refine x_aload_n hO dX1_copyFrom_106 rfl rfl ?_
      refine x_aload_n hO dX1_copyFrom_107 rfl rfl ?_
      refine x_getI (T := TX1) (j := 8) hO dX1_copyFrom_108 flX1_37 (by decide) rfl rfl (by decide) rfl rfl ?_
      refine x_put (T := TX1) (j := 8) (ty := .int) hO dX1_copyFrom_111 flX1_37 (by decide) rfl rfl (by decide) rfl rfl rfl (by decide +kernel) rfl rfl ?_
      refine x_aload_n hO dX1_copyFrom_114 rfl rfl ?_
      refine x_aload_n hO dX1_copyFrom_115 rfl rfl ?_
      refine x_getI (T := TX1) (j := 9) hO dX1_copyFrom_116 flX1_40 (by decide) rfl rfl (by decide) rfl rfl ?_
      refine x_put (T := TX1) (j := 9) (ty := .int) hO dX1_copyFrom_119 flX1_40 (by decide) rfl rfl (by decide) rfl rfl rfl (by decide +kernel) rfl rfl ?_
      refine x_aload_n hO dX1_copyFrom_122 rfl rfl ?_
      refine x_aload_n hO dX1_copyFrom_123 rfl rfl ?_
      refine x_getI (T := TX1) (j := 10) hO dX1_copyFrom_124 flX1_43 (by decide) rfl rfl (by decide) rfl rfl ?_
      refine x_put (T := TX1) (j := 10) (ty := .int) hO dX1_copyFrom_127 flX1_43 (by decide) rfl rfl (by decide) rfl rfl rfl (by decide +kernel) rfl rfl ?_
      refine x_aload_n hO dX1_copyFrom_130 rfl rfl ?_
      refine x_aload_n hO dX1_copyFrom_131 rfl rfl ?_
      refine x_getI (T := TX1) (j := 11) hO dX1_copyFrom_132 flX1_46 (by decide) rfl rfl (by decide) rfl rfl ?_
      refine x_put (T := TX1) (j := 11) (ty := .int) hO dX1_copyFrom_135 flX1_46 (by decide) rfl rfl (by decide) rfl rfl rfl (by decide +kernel) rfl rfl ?_
      refine x_vret hO hR dX1_copyFrom_138 ?_
      have gp : M1 56 = M 56 := h1.2 _ (by omega)
      have gq : M1 16 = M 16 := h1.2 _ (by omega)
      refine ⟨cA_ext (fun s hs => ?_) (fun s hs => cA_ge hs), all5 ?_ ?_ ?_ ?_ ?_, fun k hk => ?_⟩
      · refine cA_row hs hs (fun w hw => ?_)
        have e := h1.1 w hw s hs
        have n0 : ¬ 56 + 1 + w = 56 := by omega
        simp only [xset_at, n0, if_false]
        exact e
      · simp [xset_at, gp, gq]
      · simp [xset_at, gp, gq]
      · simp [xset_at, gp, gq]
      · simp [xset_at, gp, gq]
      · simp [xset_at, gp, gq]
      · have n0 : ¬ k = 56 := by omega
        funext a
        simp only [xset_at, n0, if_false]
        rw [h1.2 k (by omega)]
    · exact absurd (Int32.le_refl _) c
  · intro i d hd ih M1 h1
    have hi : i < 32 := by omega
    have g17 : M1 17 = M 17 := h1.2 _ (by omega)
    have g18 : M1 18 = M 18 := h1.2 _ (by omega)
    have g19 : M1 19 = M 19 := h1.2 _ (by omega)
    have g20 : M1 20 = M 20 := h1.2 _ (by omega)
    have g21 : M1 21 = M 21 := h1.2 _ (by omega)
    have g22 : M1 22 = M 22 := h1.2 _ (by omega)
    have g23 : M1 23 = M 23 := h1.2 _ (by omega)
    refine x_iload_n hO dX1_copyFrom_2 rfl rfl ?_
    refine x_bipush (v := nI 32) hO dX1_copyFrom_3 rfl ?_
    refine x_icmp_ge (tgt := 98) hO dX1_copyFrom_5 (by decide) (fun c => ?_) (fun c => ?_)
    · exact absurd c (nI_ge hi (by decide))
    · refine x_aload_n hO dX1_copyFrom_8 rfl rfl ?_
      refine x_getR (T := TX1) (j := 0) hO dX1_copyFrom_9 flX1_9 (by decide) rfl rfl (by decide) rfl rfl ?_
      refine x_iload_n hO dX1_copyFrom_12 rfl rfl ?_
      refine x_aload_n hO dX1_copyFrom_13 rfl rfl ?_
      refine x_getR (T := TX1) (j := 0) hO dX1_copyFrom_14 flX1_9 (by decide) rfl rfl (by decide) rfl rfl ?_
      refine x_iload_n hO dX1_copyFrom_17 rfl rfl ?_
      refine x_iald hO (by decide) rfl (by decide) (rfl) (hi) dX1_copyFrom_18 ?_
      refine x_iast hO (by decide) rfl (by decide) (rfl) (hi) dX1_copyFrom_19 ?_
      refine x_aload_n hO dX1_copyFrom_20 rfl rfl ?_
      refine x_getR (T := TX1) (j := 1) hO dX1_copyFrom_21 flX1_15 (by decide) rfl rfl (by decide) rfl rfl ?_
      refine x_iload_n hO dX1_copyFrom_24 rfl rfl ?_
      refine x_aload_n hO dX1_copyFrom_25 rfl rfl ?_
      refine x_getR (T := TX1) (j := 1) hO dX1_copyFrom_26 flX1_15 (by decide) rfl rfl (by decide) rfl rfl ?_
      refine x_iload_n hO dX1_copyFrom_29 rfl rfl ?_
      refine x_iald hO (by decide) rfl (by decide) (rfl) (hi) dX1_copyFrom_30 ?_
      refine x_iast hO (by decide) rfl (by decide) (rfl) (hi) dX1_copyFrom_31 ?_
      refine x_aload_n hO dX1_copyFrom_32 rfl rfl ?_
      refine x_getR (T := TX1) (j := 2) hO dX1_copyFrom_33 flX1_18 (by decide) rfl rfl (by decide) rfl rfl ?_
      refine x_iload_n hO dX1_copyFrom_36 rfl rfl ?_
      refine x_aload_n hO dX1_copyFrom_37 rfl rfl ?_
      refine x_getR (T := TX1) (j := 2) hO dX1_copyFrom_38 flX1_18 (by decide) rfl rfl (by decide) rfl rfl ?_
      refine x_iload_n hO dX1_copyFrom_41 rfl rfl ?_
      refine x_iald hO (by decide) rfl (by decide) (rfl) (hi) dX1_copyFrom_42 ?_
      refine x_iast hO (by decide) rfl (by decide) (rfl) (hi) dX1_copyFrom_43 ?_
      refine x_aload_n hO dX1_copyFrom_44 rfl rfl ?_
      refine x_getR (T := TX1) (j := 3) hO dX1_copyFrom_45 flX1_21 (by decide) rfl rfl (by decide) rfl rfl ?_
      refine x_iload_n hO dX1_copyFrom_48 rfl rfl ?_
      refine x_aload_n hO dX1_copyFrom_49 rfl rfl ?_
      refine x_getR (T := TX1) (j := 3) hO dX1_copyFrom_50 flX1_21 (by decide) rfl rfl (by decide) rfl rfl ?_
      refine x_iload_n hO dX1_copyFrom_53 rfl rfl ?_
      refine x_iald hO (by decide) rfl (by decide) (rfl) (hi) dX1_copyFrom_54 ?_
      refine x_iast hO (by decide) rfl (by decide) (rfl) (hi) dX1_copyFrom_55 ?_
      refine x_aload_n hO dX1_copyFrom_56 rfl rfl ?_
      refine x_getR (T := TX1) (j := 4) hO dX1_copyFrom_57 flX1_24 (by decide) rfl rfl (by decide) rfl rfl ?_
      refine x_iload_n hO dX1_copyFrom_60 rfl rfl ?_
      refine x_aload_n hO dX1_copyFrom_61 rfl rfl ?_
      refine x_getR (T := TX1) (j := 4) hO dX1_copyFrom_62 flX1_24 (by decide) rfl rfl (by decide) rfl rfl ?_
      refine x_iload_n hO dX1_copyFrom_65 rfl rfl ?_
      refine x_iald hO (by decide) rfl (by decide) (rfl) (hi) dX1_copyFrom_66 ?_
      refine x_iast hO (by decide) rfl (by decide) (rfl) (hi) dX1_copyFrom_67 ?_
      refine x_aload_n hO dX1_copyFrom_68 rfl rfl ?_
      refine x_getR (T := TX1) (j := 5) hO dX1_copyFrom_69 flX1_27 (by decide) rfl rfl (by decide) rfl rfl ?_
      refine x_iload_n hO dX1_copyFrom_72 rfl rfl ?_
      refine x_aload_n hO dX1_copyFrom_73 rfl rfl ?_
      refine x_getR (T := TX1) (j := 5) hO dX1_copyFrom_74 flX1_27 (by decide) rfl rfl (by decide) rfl rfl ?_
      refine x_iload_n hO dX1_copyFrom_77 rfl rfl ?_
      refine x_iald hO (by decide) rfl (by decide) (rfl) (hi) dX1_copyFrom_78 ?_
      refine x_iast hO (by decide) rfl (by decide) (rfl) (hi) dX1_copyFrom_79 ?_
      refine x_aload_n hO dX1_copyFrom_80 rfl rfl ?_
      refine x_getR (T := TX1) (j := 6) hO dX1_copyFrom_81 flX1_30 (by decide) rfl rfl (by decide) rfl rfl ?_
      refine x_iload_n hO dX1_copyFrom_84 rfl rfl ?_
      refine x_aload_n hO dX1_copyFrom_85 rfl rfl ?_
      refine x_getR (T := TX1) (j := 6) hO dX1_copyFrom_86 flX1_30 (by decide) rfl rfl (by decide) rfl rfl ?_
      refine x_iload_n hO dX1_copyFrom_89 rfl rfl ?_
      refine x_iald hO (by decide) rfl (by decide) (rfl) (hi) dX1_copyFrom_90 ?_
      refine x_iast hO (by decide) rfl (by decide) (rfl) (hi) dX1_copyFrom_91 ?_
      refine x_iinc hO dX1_copyFrom_92 rfl (by first | exact xinc_n _ | rfl) rfl hN ?_
      refine x_goto (tgt := 2) hO dX1_copyFrom_95 (by decide) ?_
      refine ih _ (cpR_s h1 (all7 ?_ ?_ ?_ ?_ ?_ ?_ ?_) (all7 ?_ ?_ ?_ ?_ ?_ ?_ ?_) (fun k hk => ?_))
      all_goals first
        | (simp [xset_at, g17, g18, g19, g20, g21, g22, g23]; done)
        | (intro s hs; simp [xset_at, hs]; done)
        | skip
      have h57 : ¬ k = 57 := by omega
      have h58 : ¬ k = 58 := by omega
      have h59 : ¬ k = 59 := by omega
      have h60 : ¬ k = 60 := by omega
      have h61 : ¬ k = 61 := by omega
      have h62 : ¬ k = 62 := by omega
      have h63 : ¬ k = 63 := by omega
      funext a
      simp [xset_at, h57, h58, h59, h60, h61, h62, h63]
/-! ===== TernaryMatcher.copyState ===== -/
theorem k_copyState_24_16 (U : xP) (M : xM) : xMetV U mX3_copyState [.inr 24, .inr 16] M (fun M' => cpSt M M' 16 24) := by
  refine xMetV.of (L := [some (.inr 24), some (.inr 16)]) fX3_copyState rfl rfl (Nat.le_of_ble_eq_true rfl) (fun G hN hO hR => ?_)
  have hN : G.2.2.2.2.2.2.2.2.2.2.1 = 2 := hN
  have hO : xOK U G RX3 cX3_copyState 1 := hO
  refine x_aload_n hO dX3_copyState_0 rfl rfl ?_
  refine x_ifnull hO dX3_copyState_1 ?_
  refine x_aload_n hO dX3_copyState_4 rfl rfl ?_
  refine x_ifnull hO dX3_copyState_5 ?_
  refine x_aload_n hO dX3_copyState_8 rfl rfl ?_
  refine x_aload_n hO dX3_copyState_9 rfl rfl ?_
  refine x_callVv hO (k_copyFrom_16_24 U M) dX3_copyState_10 lkX3_210 fX1_copyFrom vX1_copyFrom (by decide) rfl rfl rfl rfl rfl (by decide) (Nat.le_of_ble_eq_true rfl) (fun M' h => ?_)
  refine x_vret hO hR dX3_copyState_13 ?_
  exact h
theorem k_copyState_32_16 (U : xP) (M : xM) : xMetV U mX3_copyState [.inr 32, .inr 16] M (fun M' => cpSt M M' 16 32) := by
  refine xMetV.of (L := [some (.inr 32), some (.inr 16)]) fX3_copyState rfl rfl (Nat.le_of_ble_eq_true rfl) (fun G hN hO hR => ?_)
  have hN : G.2.2.2.2.2.2.2.2.2.2.1 = 2 := hN
  have hO : xOK U G RX3 cX3_copyState 1 := hO
  refine x_aload_n hO dX3_copyState_0 rfl rfl ?_
  refine x_ifnull hO dX3_copyState_1 ?_
  refine x_aload_n hO dX3_copyState_4 rfl rfl ?_
  refine x_ifnull hO dX3_copyState_5 ?_
  refine x_aload_n hO dX3_copyState_8 rfl rfl ?_
  refine x_aload_n hO dX3_copyState_9 rfl rfl ?_
  refine x_callVv hO (k_copyFrom_16_32 U M) dX3_copyState_10 lkX3_210 fX1_copyFrom vX1_copyFrom (by decide) rfl rfl rfl rfl rfl (by decide) (Nat.le_of_ble_eq_true rfl) (fun M' h => ?_)
  refine x_vret hO hR dX3_copyState_13 ?_
  exact h
theorem k_copyState_40_16 (U : xP) (M : xM) : xMetV U mX3_copyState [.inr 40, .inr 16] M (fun M' => cpSt M M' 16 40) := by
  refine xMetV.of (L := [some (.inr 40), some (.inr 16)]) fX3_copyState rfl rfl (Nat.le_of_ble_eq_true rfl) (fun G hN hO hR => ?_)
  have hN : G.2.2.2.2.2.2.2.2.2.2.1 = 2 := hN
  have hO : xOK U G RX3 cX3_copyState 1 := hO
  refine x_aload_n hO dX3_copyState_0 rfl rfl ?_
  refine x_ifnull hO dX3_copyState_1 ?_
  refine x_aload_n hO dX3_copyState_4 rfl rfl ?_
  refine x_ifnull hO dX3_copyState_5 ?_
  refine x_aload_n hO dX3_copyState_8 rfl rfl ?_
  refine x_aload_n hO dX3_copyState_9 rfl rfl ?_
  refine x_callVv hO (k_copyFrom_16_40 U M) dX3_copyState_10 lkX3_210 fX1_copyFrom vX1_copyFrom (by decide) rfl rfl rfl rfl rfl (by decide) (Nat.le_of_ble_eq_true rfl) (fun M' h => ?_)
  refine x_vret hO hR dX3_copyState_13 ?_
  exact h
theorem k_copyState_48_16 (U : xP) (M : xM) : xMetV U mX3_copyState [.inr 48, .inr 16] M (fun M' => cpSt M M' 16 48) := by
  refine xMetV.of (L := [some (.inr 48), some (.inr 16)]) fX3_copyState rfl rfl (Nat.le_of_ble_eq_true rfl) (fun G hN hO hR => ?_)
  have hN : G.2.2.2.2.2.2.2.2.2.2.1 = 2 := hN
  have hO : xOK U G RX3 cX3_copyState 1 := hO
  refine x_aload_n hO dX3_copyState_0 rfl rfl ?_
  refine x_ifnull hO dX3_copyState_1 ?_
  refine x_aload_n hO dX3_copyState_4 rfl rfl ?_
  refine x_ifnull hO dX3_copyState_5 ?_
  refine x_aload_n hO dX3_copyState_8 rfl rfl ?_
  refine x_aload_n hO dX3_copyState_9 rfl rfl ?_
  refine x_callVv hO (k_copyFrom_16_48 U M) dX3_copyState_10 lkX3_210 fX1_copyFrom vX1_copyFrom (by decide) rfl rfl rfl rfl rfl (by decide) (Nat.le_of_ble_eq_true rfl) (fun M' h => ?_)
  refine x_vret hO hR dX3_copyState_13 ?_
  exact h
theorem k_copyState_56_16 (U : xP) (M : xM) : xMetV U mX3_copyState [.inr 56, .inr 16] M (fun M' => cpSt M M' 16 56) := by
  refine xMetV.of (L := [some (.inr 56), some (.inr 16)]) fX3_copyState rfl rfl (Nat.le_of_ble_eq_true rfl) (fun G hN hO hR => ?_)
  have hN : G.2.2.2.2.2.2.2.2.2.2.1 = 2 := hN
  have hO : xOK U G RX3 cX3_copyState 1 := hO
  refine x_aload_n hO dX3_copyState_0 rfl rfl ?_
  refine x_ifnull hO dX3_copyState_1 ?_
  refine x_aload_n hO dX3_copyState_4 rfl rfl ?_
  refine x_ifnull hO dX3_copyState_5 ?_
  refine x_aload_n hO dX3_copyState_8 rfl rfl ?_
  refine x_aload_n hO dX3_copyState_9 rfl rfl ?_
  refine x_callVv hO (k_copyFrom_16_56 U M) dX3_copyState_10 lkX3_210 fX1_copyFrom vX1_copyFrom (by decide) rfl rfl rfl rfl rfl (by decide) (Nat.le_of_ble_eq_true rfl) (fun M' h => ?_)
  refine x_vret hO hR dX3_copyState_13 ?_
  exact h
theorem k_copyState_16_24 (U : xP) (M : xM) : xMetV U mX3_copyState [.inr 16, .inr 24] M (fun M' => cpSt M M' 24 16) := by
  refine xMetV.of (L := [some (.inr 16), some (.inr 24)]) fX3_copyState rfl rfl (Nat.le_of_ble_eq_true rfl) (fun G hN hO hR => ?_)
  have hN : G.2.2.2.2.2.2.2.2.2.2.1 = 2 := hN
  have hO : xOK U G RX3 cX3_copyState 1 := hO
  refine x_aload_n hO dX3_copyState_0 rfl rfl ?_
  refine x_ifnull hO dX3_copyState_1 ?_
  refine x_aload_n hO dX3_copyState_4 rfl rfl ?_
  refine x_ifnull hO dX3_copyState_5 ?_
  refine x_aload_n hO dX3_copyState_8 rfl rfl ?_
  refine x_aload_n hO dX3_copyState_9 rfl rfl ?_
  refine x_callVv hO (k_copyFrom_24_16 U M) dX3_copyState_10 lkX3_210 fX1_copyFrom vX1_copyFrom (by decide) rfl rfl rfl rfl rfl (by decide) (Nat.le_of_ble_eq_true rfl) (fun M' h => ?_)
  refine x_vret hO hR dX3_copyState_13 ?_
  exact h
theorem k_copyState_16_32 (U : xP) (M : xM) : xMetV U mX3_copyState [.inr 16, .inr 32] M (fun M' => cpSt M M' 32 16) := by
  refine xMetV.of (L := [some (.inr 16), some (.inr 32)]) fX3_copyState rfl rfl (Nat.le_of_ble_eq_true rfl) (fun G hN hO hR => ?_)
  have hN : G.2.2.2.2.2.2.2.2.2.2.1 = 2 := hN
  have hO : xOK U G RX3 cX3_copyState 1 := hO
  refine x_aload_n hO dX3_copyState_0 rfl rfl ?_
  refine x_ifnull hO dX3_copyState_1 ?_
  refine x_aload_n hO dX3_copyState_4 rfl rfl ?_
  refine x_ifnull hO dX3_copyState_5 ?_
  refine x_aload_n hO dX3_copyState_8 rfl rfl ?_
  refine x_aload_n hO dX3_copyState_9 rfl rfl ?_
  refine x_callVv hO (k_copyFrom_32_16 U M) dX3_copyState_10 lkX3_210 fX1_copyFrom vX1_copyFrom (by decide) rfl rfl rfl rfl rfl (by decide) (Nat.le_of_ble_eq_true rfl) (fun M' h => ?_)
  refine x_vret hO hR dX3_copyState_13 ?_
  exact h
theorem k_copyState_16_40 (U : xP) (M : xM) : xMetV U mX3_copyState [.inr 16, .inr 40] M (fun M' => cpSt M M' 40 16) := by
  refine xMetV.of (L := [some (.inr 16), some (.inr 40)]) fX3_copyState rfl rfl (Nat.le_of_ble_eq_true rfl) (fun G hN hO hR => ?_)
  have hN : G.2.2.2.2.2.2.2.2.2.2.1 = 2 := hN
  have hO : xOK U G RX3 cX3_copyState 1 := hO
  refine x_aload_n hO dX3_copyState_0 rfl rfl ?_
  refine x_ifnull hO dX3_copyState_1 ?_
  refine x_aload_n hO dX3_copyState_4 rfl rfl ?_
  refine x_ifnull hO dX3_copyState_5 ?_
  refine x_aload_n hO dX3_copyState_8 rfl rfl ?_
  refine x_aload_n hO dX3_copyState_9 rfl rfl ?_
  refine x_callVv hO (k_copyFrom_40_16 U M) dX3_copyState_10 lkX3_210 fX1_copyFrom vX1_copyFrom (by decide) rfl rfl rfl rfl rfl (by decide) (Nat.le_of_ble_eq_true rfl) (fun M' h => ?_)
  refine x_vret hO hR dX3_copyState_13 ?_
  exact h
theorem k_copyState_16_48 (U : xP) (M : xM) : xMetV U mX3_copyState [.inr 16, .inr 48] M (fun M' => cpSt M M' 48 16) := by
  refine xMetV.of (L := [some (.inr 16), some (.inr 48)]) fX3_copyState rfl rfl (Nat.le_of_ble_eq_true rfl) (fun G hN hO hR => ?_)
  have hN : G.2.2.2.2.2.2.2.2.2.2.1 = 2 := hN
  have hO : xOK U G RX3 cX3_copyState 1 := hO
  refine x_aload_n hO dX3_copyState_0 rfl rfl ?_
  refine x_ifnull hO dX3_copyState_1 ?_
  refine x_aload_n hO dX3_copyState_4 rfl rfl ?_
  refine x_ifnull hO dX3_copyState_5 ?_
  refine x_aload_n hO dX3_copyState_8 rfl rfl ?_
  refine x_aload_n hO dX3_copyState_9 rfl rfl ?_
  refine x_callVv hO (k_copyFrom_48_16 U M) dX3_copyState_10 lkX3_210 fX1_copyFrom vX1_copyFrom (by decide) rfl rfl rfl rfl rfl (by decide) (Nat.le_of_ble_eq_true rfl) (fun M' h => ?_)
  refine x_vret hO hR dX3_copyState_13 ?_
  exact h
theorem k_copyState_16_56 (U : xP) (M : xM) : xMetV U mX3_copyState [.inr 16, .inr 56] M (fun M' => cpSt M M' 56 16) := by
  refine xMetV.of (L := [some (.inr 16), some (.inr 56)]) fX3_copyState rfl rfl (Nat.le_of_ble_eq_true rfl) (fun G hN hO hR => ?_)
  have hN : G.2.2.2.2.2.2.2.2.2.2.1 = 2 := hN
  have hO : xOK U G RX3 cX3_copyState 1 := hO
  refine x_aload_n hO dX3_copyState_0 rfl rfl ?_
  refine x_ifnull hO dX3_copyState_1 ?_
  refine x_aload_n hO dX3_copyState_4 rfl rfl ?_
  refine x_ifnull hO dX3_copyState_5 ?_
  refine x_aload_n hO dX3_copyState_8 rfl rfl ?_
  refine x_aload_n hO dX3_copyState_9 rfl rfl ?_
  refine x_callVv hO (k_copyFrom_56_16 U M) dX3_copyState_10 lkX3_210 fX1_copyFrom vX1_copyFrom (by decide) rfl rfl rfl rfl rfl (by decide) (Nat.le_of_ble_eq_true rfl) (fun M' h => ?_)
  refine x_vret hO hR dX3_copyState_13 ?_
  exact h
theorem k_copyTo (U : xP) (M : xM) {b : Nat} (h : b = 24 ∨ b = 32 ∨ b = 40 ∨ b = 48 ∨ b = 56) : xMetV U mX3_copyState [.inr 16, .inr b] M (fun M' => cpSt M M' b 16) := by
  rcases h with rfl | rfl | rfl | rfl | rfl
  · exact k_copyState_16_24 U M
  · exact k_copyState_16_32 U M
  · exact k_copyState_16_40 U M
  · exact k_copyState_16_48 U M
  · exact k_copyState_16_56 U M
theorem k_copyOf (U : xP) (M : xM) {b : Nat} (h : b = 24 ∨ b = 32 ∨ b = 40 ∨ b = 48 ∨ b = 56) : xMetV U mX3_copyState [.inr b, .inr 16] M (fun M' => cpSt M M' 16 b) := by
  rcases h with rfl | rfl | rfl | rfl | rfl
  · exact k_copyState_24_16 U M
  · exact k_copyState_32_16 U M
  · exact k_copyState_40_16 U M
  · exact k_copyState_48_16 U M
  · exact k_copyState_56_16 U M
/-! ===== Math.floorMod, History ===== -/
theorem k_floorMod (U : xP) (M : xM) {a : Nat} (ha : a < 100) : xMetI U mJ9_floorMod_7cf53 [.inl (nI a), .inl (nI 4)] M (fun r M' => r = nI (a % 4) ∧ M' = M) := by
  refine xMetI.of (ty := .int) (L := [some (.inl (nI a)), some (.inl (nI 4)), none]) fJ9_floorMod_7cf53 rfl rfl (Nat.le_of_ble_eq_true rfl) (fun G hN hO hR => ?_)
  have hN : G.2.2.2.2.2.2.2.2.2.2.1 = 3 := hN
  have hO : xOK U G RJ9 cJ9_floorMod_7cf53 0 := hO
  have n0 : ¬ nI 4 = 0 := by decide
  refine x_iload_n hO dJ9_floorMod_7cf53_0 rfl rfl ?_
  refine x_iload_n hO dJ9_floorMod_7cf53_1 rfl rfl ?_
  refine x_irem hO dJ9_floorMod_7cf53_2 (n0) ?_
  rw [pk_rem (by omega) (by decide) (by decide)]
  refine x_istore_n (n := 3) hO dJ9_floorMod_7cf53_3 rfl rfl (by decide) hN ?_
  refine x_iload_n hO dJ9_floorMod_7cf53_4 rfl rfl ?_
  refine x_iload_n hO dJ9_floorMod_7cf53_5 rfl rfl ?_
  refine x_ixor hO dJ9_floorMod_7cf53_6 ?_
  have hx : ∀ a, a < 100 → 0 ≤ nI a ^^^ nI 4 := by decide +kernel
  refine x_if_ge (tgt := 18) hO dJ9_floorMod_7cf53_7 (by decide) (fun c => ?_) (fun c => ?_)
  · refine x_iload_n hO dJ9_floorMod_7cf53_18 rfl rfl ?_
    refine x_iret hO hR dJ9_floorMod_7cf53_19 rfl ?_
    exact ⟨rfl, rfl⟩
  · exact absurd (hx a ha) c
/-- the memory of the history's place i, when the oldest is o -/
def hb (o i : Nat) : Nat := 32 + 8 * ((o + i) % 4)
theorem hb_or (o i : Nat) : hb o i = 24 ∨ hb o i = 32 ∨ hb o i = 40 ∨ hb o i = 48 ∨ hb o i = 56 := by
  unfold hb
  omega
theorem hb_ts (o i : Nat) : ([32, 40, 48, 56] : List Nat)[(o + i) % 4]? = some (hb o i) := by
  unfold hb
  have h : (o + i) % 4 < 4 := Nat.mod_lt _ (by decide)
  generalize (o + i) % 4 = j at *
  match j, h with
  | 0, _ => rfl
  | 1, _ => rfl
  | 2, _ => rfl
  | 3, _ => rfl
theorem x_aaldn {U : xP} {G : xG} {own : String} {cc : ByteArray} {K pc : Nat} {L : List (Option xV)} {st : List xV} {M : xM} (hO : xOK U G own cc K) {k t j : Nat} {ts : List Nat} (hk : k < 64) (hs : xsh k = .inr (.inl ts)) (ht : ts[j]? = some t) (hl : ts.length < 2 ^ 31) (hd : decode cc pc = .ok (.aaload, 1)) (kk : XW U G (pc + 1) L (.inr t :: st) M) : XW U G pc L (.inl (nI j) :: .inr k :: st) M := by
  have hj : j < ts.length := (List.getElem?_eq_some_iff.mp ht).1
  exact x_aald hO hk hs (vp_in_nI hj hl) (by rw [nI_clamp (by omega)]; exact ht) hd kk
theorem k_record (U : xP) (M : xM) {o c : Nat} (ho : M 1 1 = nI o) (hc : M 1 2 = nI c) (ho4 : o < 4) (hc4 : c ≤ 4) : xMetV U mX0_record [.inr 1, .inr 16] M (fun M' => ∃ o1 c1 : Nat, o1 < 4 ∧ c1 < 4 ∧ M' 1 1 = nI o1 ∧ M' 1 2 = nI (c1 + 1) ∧ (c < 4 → o1 = o ∧ c1 = c) ∧ (c = 4 → o1 = (o + 1) % 4 ∧ c1 = 3) ∧ cA M' (hb o1 c1) = cA M 16 ∧ (∀ j, 7 ≤ j → j < 12 → M' (hb o1 c1) j = M 16 j) ∧ ∀ k, k ≠ 1 → (k < hb o1 c1 ∨ hb o1 c1 + 8 ≤ k) → M' k = M k) := by
  refine xMetV.of (L := [some (.inr 1), some (.inr 16)]) fX0_record rfl rfl (Nat.le_of_ble_eq_true rfl) (fun G hN hO hR => ?_)
  have hN : G.2.2.2.2.2.2.2.2.2.2.1 = 2 := hN
  have hO : xOK U G RX0 cX0_record 2 := hO
  refine x_aload_n hO dX0_record_0 rfl rfl ?_
  refine x_getI (T := TX0) (j := 2) hO dX0_record_1 flX0_19 (by decide) rfl rfl (by decide) rfl rfl ?_
  refine x_iconst (v := nI 4) hO dX0_record_4 rfl ?_
  rw [hc]
  have fin : ∀ (o1 c1 : Nat) (M1 : xM), o1 < 4 → c1 < 4 → M1 1 1 = nI o1 → M1 1 2 = nI c1 → (∀ k, k ≠ 1 → M1 k = M k) → (c < 4 → o1 = o ∧ c1 = c) → (c = 4 → o1 = (o + 1) % 4 ∧ c1 = 3) → XW U G 32 [some (.inr 1), some (.inr 16)] [] M1 := by
    intro o1 c1 M1 h1 h2 h3 h4 h5 h6 h7
    have h16 : M1 16 = M 16 := h5 16 (by decide)
    have hA : cA M1 16 = cA M 16 := cA_ext (fun s hs => cA_row hs hs (fun w hw => by rw [h5 _ (by omega)])) (fun s hs => cA_ge hs)
    refine x_aload_n hO dX0_record_32 rfl rfl ?_
    refine x_aload_n hO dX0_record_33 rfl rfl ?_
    refine x_getR (T := TX0) (j := 0) hO dX0_record_34 flX0_11 (by decide) rfl rfl (by decide) rfl rfl ?_
    refine x_aload_n hO dX0_record_37 rfl rfl ?_
    refine x_getI (T := TX0) (j := 1) hO dX0_record_38 flX0_15 (by decide) rfl rfl (by decide) rfl rfl ?_
    refine x_aload_n hO dX0_record_41 rfl rfl ?_
    refine x_getI (T := TX0) (j := 2) hO dX0_record_42 flX0_19 (by decide) rfl rfl (by decide) rfl rfl ?_
    rw [h3, h4]
    refine x_iadd hO dX0_record_45 ?_
    rw [nI_add]
    refine x_iconst (v := nI 4) hO dX0_record_46 rfl ?_
    refine x_callS1 hO (k_floorMod U M1 (a := o1 + c1) (by omega)) dX0_record_47 lkX0_23 fJ9_floorMod_7cf53 sJ9_floorMod_7cf53 rfl rfl (by decide) (Nat.le_of_ble_eq_true rfl) ?_
    refine x_aaldn hO (by decide) rfl (hb_ts o1 c1) (by decide) dX0_record_50 ?_
    refine x_callSNv hO (k_copyTo U M1 (hb_or o1 c1)) dX0_record_51 lkX0_29 fX3_copyState sX3_copyState rfl rfl (by decide) (Nat.le_of_ble_eq_true rfl) (fun M' h8 => ?_)
    have hb1 : 32 ≤ hb o1 c1 := by unfold hb; omega
    have e1 : M' 1 = M1 1 := h8.2.2 1 (by omega)
    refine x_aload_n hO dX0_record_54 rfl rfl ?_
    refine x_dup hO dX0_record_55 ?_
    refine x_getI (T := TX0) (j := 2) hO dX0_record_56 flX0_19 (by decide) rfl rfl (by decide) rfl rfl ?_
    refine x_iconst (v := nI 1) hO dX0_record_59 rfl ?_
    rw [e1, h4]
    refine x_iadd hO dX0_record_60 ?_
    rw [show nI c1 + nI 1 = nI (c1 + 1) from nI_add c1 1]
    refine x_put (T := TX0) (j := 2) (ty := .int) hO dX0_record_61 flX0_19 (by decide) rfl rfl (by decide) rfl rfl rfl (by decide +kernel) rfl rfl ?_
    refine x_vret hO hR dX0_record_64 ?_
    refine ⟨o1, c1, h1, h2, ?_, ?_, h6, h7, ?_, fun j hj hj2 => ?_, fun k hk1 hk => ?_⟩
    · rw [xset_at, if_pos rfl, if_neg (by decide), e1]
      exact h3
    · rw [xset_at, if_pos rfl, if_pos rfl]
    · rw [← hA, ← h8.1]
      refine cA_ext (fun s hs => cA_row hs hs (fun w hw => ?_)) (fun s hs => cA_ge hs)
      rw [xset_at, if_neg (by omega)]
    · rw [xset_at, if_neg (by omega), h8.2.1 j hj hj2, h16]
    · funext a
      rw [xset_at, if_neg hk1, h8.2.2 k hk, h5 k hk1]
  refine x_icmp_ne (tgt := 32) hO dX0_record_5 (by decide) (fun c1 => ?_) (fun c1 => ?_)
  · have q : ¬ c = 4 := fun z => c1 (by rw [z])
    exact fin o c M ho4 (by omega) ho hc (fun k _ => rfl) (fun _ => ⟨rfl, rfl⟩) (fun z => absurd z q)
  · have q : c = 4 := (nI_eq (by omega) (by decide)).mp c1
    subst q
    refine x_aload_n hO dX0_record_8 rfl rfl ?_
    refine x_aload_n hO dX0_record_9 rfl rfl ?_
    refine x_getI (T := TX0) (j := 1) hO dX0_record_10 flX0_15 (by decide) rfl rfl (by decide) rfl rfl ?_
    rw [ho]
    refine x_iconst (v := nI 1) hO dX0_record_13 rfl ?_
    refine x_iadd hO dX0_record_14 ?_
    rw [nI_add]
    refine x_iconst (v := nI 4) hO dX0_record_15 rfl ?_
    refine x_callS1 hO (k_floorMod U M (a := o + 1) (by omega)) dX0_record_16 lkX0_23 fJ9_floorMod_7cf53 sJ9_floorMod_7cf53 rfl rfl (by decide) (Nat.le_of_ble_eq_true rfl) ?_
    refine x_put (T := TX0) (j := 1) (ty := .int) hO dX0_record_19 flX0_15 (by decide) rfl rfl (by decide) rfl rfl rfl (by decide +kernel) rfl rfl ?_
    refine x_aload_n hO dX0_record_22 rfl rfl ?_
    refine x_dup hO dX0_record_23 ?_
    refine x_getI (T := TX0) (j := 2) hO dX0_record_24 flX0_19 (by decide) rfl rfl (by decide) rfl rfl ?_
    have e2 : xset M 1 1 (nI ((o + 1) % 4)) 1 2 = nI 4 := by rw [xset_at, if_pos rfl, if_neg (by decide), hc]
    rw [e2]
    refine x_iconst (v := nI 1) hO dX0_record_27 rfl ?_
    refine x_isub hO dX0_record_28 ?_
    rw [show nI 4 - nI 1 = nI 3 from by decide]
    refine x_put (T := TX0) (j := 2) (ty := .int) hO dX0_record_29 flX0_19 (by decide) rfl rfl (by decide) rfl rfl rfl (by decide +kernel) rfl rfl ?_
    refine fin ((o + 1) % 4) 3 _ (Nat.mod_lt _ (by decide)) (by decide) ?_ ?_ (fun k hk => ?_) (fun z => absurd z (by decide)) (fun _ => ⟨rfl, rfl⟩)
    · rw [xset_at, if_pos rfl, if_neg (by decide), xset_at, if_pos rfl, if_pos rfl]
    · rw [xset_at, if_pos rfl, if_pos rfl]
    · funext a
      rw [xset_at, if_neg hk, xset_at, if_neg hk]
theorem k_takeLatest (U : xP) (M : xM) {o c : Nat} (ho : M 1 1 = nI o) (hc : M 1 2 = nI (c + 1)) (ho4 : o < 4) (hc4 : c < 4) : xMetV U mX0_takeLatestInto [.inr 1, .inr 16] M (fun M' => M' 1 1 = nI o ∧ M' 1 2 = nI c ∧ cA M' 16 = cA M (hb o c) ∧ (∀ j, 7 ≤ j → j < 12 → M' 16 j = M (hb o c) j) ∧ ∀ k, k ≠ 1 → (k < 16 ∨ 24 ≤ k) → M' k = M k) := by
  refine xMetV.of (L := [some (.inr 1), some (.inr 16)]) fX0_takeLatestInto rfl rfl (Nat.le_of_ble_eq_true rfl) (fun G hN hO hR => ?_)
  have hN : G.2.2.2.2.2.2.2.2.2.2.1 = 2 := hN
  have hO : xOK U G RX0 cX0_takeLatestInto 2 := hO
  refine x_aload_n hO dX0_takeLatestInto_0 rfl rfl ?_
  refine x_getI (T := TX0) (j := 2) hO dX0_takeLatestInto_1 flX0_19 (by decide) rfl rfl (by decide) rfl rfl ?_
  rw [hc]
  refine x_if_le (tgt := 39) hO dX0_takeLatestInto_4 (by decide) (fun c1 => ?_) (fun c1 => ?_)
  · exact absurd c1 (nI_nle (by omega) (by omega))
  · refine x_aload_n hO dX0_takeLatestInto_7 rfl rfl ?_
    refine x_dup hO dX0_takeLatestInto_8 ?_
    refine x_getI (T := TX0) (j := 2) hO dX0_takeLatestInto_9 flX0_19 (by decide) rfl rfl (by decide) rfl rfl ?_
    rw [hc]
    refine x_iconst (v := nI 1) hO dX0_takeLatestInto_12 rfl ?_
    refine x_isub hO dX0_takeLatestInto_13 ?_
    rw [nI_sub1]
    refine x_put (T := TX0) (j := 2) (ty := .int) hO dX0_takeLatestInto_14 flX0_19 (by decide) rfl rfl (by decide) rfl rfl rfl (by decide +kernel) rfl rfl ?_
    have e1 : xset M 1 2 (nI c) 1 1 = nI o := by rw [xset_at, if_pos rfl, if_neg (by decide), ho]
    have e2 : xset M 1 2 (nI c) 1 2 = nI c := by rw [xset_at, if_pos rfl, if_pos rfl]
    have e3 : ∀ k, k ≠ 1 → xset M 1 2 (nI c) k = M k := fun k hk => by funext a; rw [xset_at, if_neg hk]
    generalize xset M 1 2 (nI c) = M1 at *
    refine x_aload_n hO dX0_takeLatestInto_17 rfl rfl ?_
    refine x_getR (T := TX0) (j := 0) hO dX0_takeLatestInto_18 flX0_11 (by decide) rfl rfl (by decide) rfl rfl ?_
    refine x_aload_n hO dX0_takeLatestInto_21 rfl rfl ?_
    refine x_getI (T := TX0) (j := 1) hO dX0_takeLatestInto_22 flX0_15 (by decide) rfl rfl (by decide) rfl rfl ?_
    refine x_aload_n hO dX0_takeLatestInto_25 rfl rfl ?_
    refine x_getI (T := TX0) (j := 2) hO dX0_takeLatestInto_26 flX0_19 (by decide) rfl rfl (by decide) rfl rfl ?_
    rw [e1, e2]
    refine x_iadd hO dX0_takeLatestInto_29 ?_
    rw [nI_add]
    refine x_iconst (v := nI 4) hO dX0_takeLatestInto_30 rfl ?_
    refine x_callS1 hO (k_floorMod U M1 (a := o + c) (by omega)) dX0_takeLatestInto_31 lkX0_23 fJ9_floorMod_7cf53 sJ9_floorMod_7cf53 rfl rfl (by decide) (Nat.le_of_ble_eq_true rfl) ?_
    refine x_aaldn hO (by decide) rfl (hb_ts o c) (by decide) dX0_takeLatestInto_34 ?_
    refine x_aload_n hO dX0_takeLatestInto_35 rfl rfl ?_
    refine x_callSNv hO (k_copyOf U M1 (hb_or o c)) dX0_takeLatestInto_36 lkX0_29 fX3_copyState sX3_copyState rfl rfl (by decide) (Nat.le_of_ble_eq_true rfl) (fun M' h8 => ?_)
    refine x_vret hO hR dX0_takeLatestInto_39 ?_
    have hb1 : 32 ≤ hb o c := by unfold hb; omega
    have f1 : M' 1 = M1 1 := h8.2.2 1 (by omega)
    refine ⟨by rw [f1]; exact e1, by rw [f1]; exact e2, ?_, fun j hj hj2 => ?_, fun k hk1 hk => ?_⟩
    · rw [h8.1]
      exact cA_ext (fun s hs => cA_row hs hs (fun w hw => by rw [e3 _ (by omega)])) (fun s hs => cA_ge hs)
    · rw [h8.2.1 j hj hj2, e3 _ (by omega)]
    · rw [h8.2.2 k hk, e3 k hk1]
end
section
/-! ===== what a text says: T its characters, n their number ===== -/
abbrev tT : Type := Nat → Int32
def sg (T : tT) (n p : Nat) : Int32 := if p < n then T p else -1
def isBt (x : Int32) : Bool := x == nI 48 || (x == nI 49 || x == nI 42)
def isD (x : Int32) : Bool := decide (nI 48 ≤ x) && decide (x ≤ nI 57)
/-- how many of the eight characters from p on are bits, till the first that isn't -/
def rE (T : tT) (n p : Nat) : Nat := nF (fun i => !isBt (sg T n (p + i))) 0 8
/-- the mask and the value of the first i characters from p on -/
def eM (T : tT) (p : Nat) : Nat → Nat
  | 0 => 0
  | i + 1 => eM T p i + (if T (p + i) = nI 42 then 0 else 128 / 2 ^ i)
def eV (T : tT) (p : Nat) : Nat → Nat
  | 0 => 0
  | i + 1 => eV T p i + (if T (p + i) = nI 49 then 128 / 2 ^ i else 0)
/-- how many digits the rank has -/
def rK (T : tT) (n p : Nat) : Nat := if isD (sg T n (p + 10)) then 2 else 1
def rOK (T : tT) (n p : Nat) : Bool := decide (rE T n p = 8) && ((sg T n (p + 8) == nI 44) && (isD (sg T n (p + 9)) && ((sg T n (p + 9 + rK T n p) == nI 44) && isD (sg T n (p + 10 + rK T n p)))))
/-- where the rule from p on ends, or its fault -/
def rEnd (T : tT) (n p : Nat) : Nat := if rE T n p = 8 then (if sg T n (p + 8) = nI 44 then (if isD (sg T n (p + 9)) then (if sg T n (p + 9 + rK T n p) = nI 44 then (if isD (sg T n (p + 10 + rK T n p)) then p + 11 + rK T n p else p + 10 + rK T n p) else p + 9 + rK T n p) else p + 9) else p + 8) else p + rE T n p
def rRank (T : tT) (n p : Nat) : Int32 := if isD (sg T n (p + 10)) then nI 10 * (T (p + 9) - nI 48) + (T (p + 10) - nI 48) else T (p + 9) - nI 48
def rAct (T : tT) (n p : Nat) : Int32 := T (p + 10 + rK T n p) - nI 48
/-- the rules from p on, i have been read: whether the text is good, where it ends or its fault, how many rules -/
def tx (T : tT) (n : Nat) : Nat → Nat → Nat → Bool × Nat × Nat
  | 0, p, i => (false, p, i)
  | d + 1, p, i => if rOK T n p then (if rEnd T n p = n then (true, rEnd T n p, i + 1) else if sg T n (rEnd T n p) = nI 59 then tx T n d (rEnd T n p + 1) (i + 1) else (false, rEnd T n p, i + 1)) else (false, rEnd T n p, i)
/-- where the rule i begins -/
def tB (T : tT) (n : Nat) : Nat → Nat
  | 0 => 0
  | i + 1 => rEnd T n (tB T n i) + 1
theorem sg_in {T : tT} {n p : Nat} (h : p < n) : sg T n p = T p := if_pos h
theorem sg_out {T : tT} {n p : Nat} (h : n ≤ p) : sg T n p = -1 := if_neg (by omega)
theorem sg_lt {T : tT} {n p : Nat} {x : Int32} (h : sg T n p = x) (hx : x ≠ -1) : p < n := by
  rcases Nat.lt_or_ge p n with q | q
  · exact q
  · rw [sg_out q] at h
    exact absurd h.symm hx
theorem isD_lt {T : tT} {n p : Nat} (h : isD (sg T n p) = true) : p < n := by
  rcases Nat.lt_or_ge p n with q | q
  · exact q
  · rw [sg_out q] at h
    exact absurd h (by decide)
theorem isBt_lt {T : tT} {n p : Nat} (h : isBt (sg T n p) = true) : p < n := by
  rcases Nat.lt_or_ge p n with q | q
  · exact q
  · rw [sg_out q] at h
    exact absurd h (by decide)
theorem isD_n {x : Int32} (h : isD x = true) : ∃ j : Nat, j ≤ 9 ∧ x = nI (48 + j) := by
  simp only [isD, Bool.and_eq_true, decide_eq_true_eq] at h
  have h0 : ¬ x < 0 := by
    have := h.1
    rw [Int32.le_iff_toInt_le, nI_toInt (by decide)] at this
    rw [Int32.lt_iff_toInt_lt, show (0 : Int32).toInt = 0 from rfl]
    omega
  obtain ⟨k, hk, rfl⟩ := nI_of h0
  have a := (nI_leI (by decide) hk).mp h.1
  have b := (nI_leI hk (by decide)).mp h.2
  exact ⟨k - 48, by omega, by rw [show 48 + (k - 48) = k by omega]⟩
theorem rE_le (T : tT) (n p : Nat) : rE T n p ≤ 8 := by have := (nF_le (P := fun i => !isBt (sg T n (p + i))) 8 0).2; exact this
theorem rE_bt {T : tT} {n p i : Nat} (h : i < rE T n p) : isBt (sg T n (p + i)) = true := by
  have := nF_no (P := fun i => !isBt (sg T n (p + i))) 8 0 i (Nat.zero_le _) h
  simpa using this
theorem rE_lt {T : tT} {n p : Nat} (h : 0 < rE T n p) : p + rE T n p ≤ n := by
  have := isBt_lt (rE_bt (T := T) (n := n) (p := p) (i := rE T n p - 1) (by omega))
  omega
theorem eM_le (T : tT) (p : Nat) : ∀ i, i ≤ 8 → eM T p i + 256 / 2 ^ i ≤ 256
  | 0, _ => by simp [eM]
  | i + 1, h => by
    have ih := eM_le T p i (by omega)
    have e : 128 / 2 ^ i + 256 / 2 ^ (i + 1) ≤ 256 / 2 ^ i := by
      obtain rfl | rfl | rfl | rfl | rfl | rfl | rfl | rfl : i = 0 ∨ i = 1 ∨ i = 2 ∨ i = 3 ∨ i = 4 ∨ i = 5 ∨ i = 6 ∨ i = 7 := by omega
      all_goals decide
    simp only [eM]
    generalize 128 / 2 ^ i = u at *
    generalize 256 / 2 ^ (i + 1) = v at *
    generalize 256 / 2 ^ i = w at *
    split <;> omega
theorem eV_le (T : tT) (p : Nat) : ∀ i, i ≤ 8 → eV T p i + 256 / 2 ^ i ≤ 256
  | 0, _ => by simp [eV]
  | i + 1, h => by
    have ih := eV_le T p i (by omega)
    have e : 128 / 2 ^ i + 256 / 2 ^ (i + 1) ≤ 256 / 2 ^ i := by
      obtain rfl | rfl | rfl | rfl | rfl | rfl | rfl | rfl : i = 0 ∨ i = 1 ∨ i = 2 ∨ i = 3 ∨ i = 4 ∨ i = 5 ∨ i = 6 ∨ i = 7 := by omega
      all_goals decide
    simp only [eV]
    generalize 128 / 2 ^ i = u at *
    generalize 256 / 2 ^ (i + 1) = v at *
    generalize 256 / 2 ^ i = w at *
    split <;> omega
theorem rK_12 (T : tT) (n p : Nat) : rK T n p = 1 ∨ rK T n p = 2 := by
  unfold rK
  split
  · exact Or.inr rfl
  · exact Or.inl rfl
theorem rOK_end {T : tT} {n p : Nat} (h : rOK T n p = true) : rEnd T n p = p + 11 + rK T n p ∧ p + 11 + rK T n p ≤ n := by
  simp only [rOK, Bool.and_eq_true, decide_eq_true_eq, beq_iff_eq] at h
  obtain ⟨h1, h2, h3, h4, h5⟩ := h
  have := isD_lt h5
  refine ⟨?_, by omega⟩
  unfold rEnd
  rw [if_pos h1, if_pos h2, if_pos h3, if_pos h4, if_pos h5]
theorem rEnd_le (T : tT) {n p : Nat} (h : p ≤ n) : rEnd T n p ≤ n := by
  have e := rE_le T n p
  unfold rEnd
  split
  · rename_i h1
    have a := rE_lt (T := T) (n := n) (p := p) (by omega)
    split
    · rename_i h2
      have a2 := sg_lt h2 (by decide)
      split
      · rename_i h3
        have a3 := isD_lt h3
        have k := rK_12 T n p
        have ak : p + 9 + rK T n p ≤ n := by
          unfold rK
          split
          · rename_i q
            have := isD_lt q
            omega
          · omega
        split
        · rename_i h4
          have a4 := sg_lt h4 (by decide)
          split
          · rename_i h5
            have := isD_lt h5
            omega
          · omega
        · exact ak
      · omega
    · omega
  · rename_i h1
    rcases Nat.eq_zero_or_pos (rE T n p) with q | q
    · omega
    · exact rE_lt q
theorem upd_at (f : Nat → Int32) (k : Nat) (x : Int32) (j : Nat) : upd f k x j = if j = k then x else f j := rfl
theorem upd_up (f : Nat → Int32) (k : Nat) (x y : Int32) : upd (upd f k x) k y = upd f k y := by
  funext j
  simp only [upd_at]
  split <;> rfl
theorem xset_same (M : xM) (k j : Nat) (x : Int32) : xset M k j x k = upd (M k) j x := by
  funext a
  rw [xset_at, if_pos rfl]
  rfl
theorem xset_ne (M : xM) {k k2 : Nat} (j : Nat) (x : Int32) (h : k2 ≠ k) : xset M k j x k2 = M k2 := by
  funext a
  rw [xset_at, if_neg h]
/-! ===== RuleText ===== -/
theorem k_sign (U : xP) (M : xM) {n p : Nat} (h1 : M 3 1 = nI n) (h2 : M 3 2 = nI p) (hn : n ≤ 60) (hp : p ≤ n) : xMetI U mX2_sign [.inr 3] M (fun r M' => r = sg (M 4) n p ∧ M' = M) := by
  refine xMetI.of (ty := .int) (L := [some (.inr 3)]) fX2_sign rfl rfl (Nat.le_of_ble_eq_true rfl) (fun G hN hO hR => ?_)
  have hN : G.2.2.2.2.2.2.2.2.2.2.1 = 1 := hN
  have hO : xOK U G RX2 cX2_sign 0 := hO
  unfold sg at hR
  refine x_aload_n hO dX2_sign_0 rfl rfl ?_
  refine x_getI (T := TX2) (j := 2) hO dX2_sign_1 flX2_19 (by decide) rfl rfl (by decide) rfl rfl ?_
  rw [h2]
  refine x_if_lt (tgt := 39) hO dX2_sign_4 (by decide) (fun c => ?_) (fun c => ?_)
  · exact absurd c (nI_pos (by omega))
  · refine x_aload_n hO dX2_sign_7 rfl rfl ?_
    refine x_getI (T := TX2) (j := 2) hO dX2_sign_8 flX2_19 (by decide) rfl rfl (by decide) rfl rfl ?_
    refine x_aload_n hO dX2_sign_11 rfl rfl ?_
    refine x_getI (T := TX2) (j := 1) hO dX2_sign_12 flX2_15 (by decide) rfl rfl (by decide) rfl rfl ?_
    rw [h1, h2]
    refine x_icmp_ge (tgt := 39) hO dX2_sign_15 (by decide) (fun c1 => ?_) (fun c1 => ?_)
    · have q : n ≤ p := (nI_leI (by omega) (by omega)).mp c1
      rw [if_neg (by omega)] at hR
      refine x_iconst (v := (-1 : Int32)) hO dX2_sign_39 rfl ?_
      refine x_iret hO hR dX2_sign_40 rfl ?_
      exact ⟨rfl, rfl⟩
    · have q : p < n := by
        rcases Nat.lt_or_ge p n with q | q
        · exact q
        · exact absurd ((nI_leI (by omega) (by omega)).mpr q) c1
      rw [if_pos q] at hR
      refine x_aload_n hO dX2_sign_18 rfl rfl ?_
      refine x_getI (T := TX2) (j := 2) hO dX2_sign_19 flX2_19 (by decide) rfl rfl (by decide) rfl rfl ?_
      refine x_bipush (v := nI 60) hO dX2_sign_22 rfl ?_
      rw [h2]
      refine x_icmp_ge (tgt := 39) hO dX2_sign_24 (by decide) (fun c2 => ?_) (fun c2 => ?_)
      · exact absurd c2 (nI_ge (by omega) (by decide))
      · have hp60 : p < 60 := by omega
        refine x_aload_n hO dX2_sign_27 rfl rfl ?_
        refine x_getR (T := TX2) (j := 0) hO dX2_sign_28 flX2_11 (by decide) rfl rfl (by decide) rfl rfl ?_
        refine x_aload_n hO dX2_sign_31 rfl rfl ?_
        refine x_getI (T := TX2) (j := 2) hO dX2_sign_32 flX2_19 (by decide) rfl rfl (by decide) rfl rfl ?_
        refine x_iald hO (by decide) rfl (by decide) (h2) (hp60) dX2_sign_35 ?_
        refine x_goto (tgt := 40) hO dX2_sign_36 (by decide) ?_
        refine x_iret hO hR dX2_sign_40 rfl ?_
        exact ⟨rfl, rfl⟩
def dgI (x : Int32) : Int32 := if isD x then x - nI 48 else -1
theorem k_digit (U : xP) (M : xM) {n p : Nat} (h1 : M 3 1 = nI n) (h2 : M 3 2 = nI p) (hn : n ≤ 60) (hp : p ≤ n) : xMetI U mX2_digit [.inr 3] M (fun r M' => r = dgI (sg (M 4) n p) ∧ M' = M) := by
  refine xMetI.of (ty := .int) (L := [some (.inr 3), none]) fX2_digit rfl rfl (Nat.le_of_ble_eq_true rfl) (fun G hN hO hR => ?_)
  have hN : G.2.2.2.2.2.2.2.2.2.2.1 = 2 := hN
  have hO : xOK U G RX2 cX2_digit 1 := hO
  unfold dgI at hR
  refine x_aload_n hO dX2_digit_0 rfl rfl ?_
  refine x_callV1 hO (k_sign U M h1 h2 hn hp) dX2_digit_1 lkX2_51 fX2_sign vX2_sign (by decide) rfl rfl rfl rfl rfl (by decide) (Nat.le_of_ble_eq_true rfl) ?_
  generalize sg (M 4) n p = x at *
  refine x_istore_n (n := 2) hO dX2_digit_4 rfl rfl (by decide) hN ?_
  refine x_iload_n hO dX2_digit_5 rfl rfl ?_
  refine x_bipush (v := nI 48) hO dX2_digit_6 rfl ?_
  refine x_icmp_lt (tgt := 24) hO dX2_digit_8 (by decide) (fun c => ?_) (fun c => ?_)
  · rw [if_neg (by simp [isD, Int32.not_le.mpr c])] at hR
    refine x_iconst (v := (-1 : Int32)) hO dX2_digit_24 rfl ?_
    refine x_iret hO hR dX2_digit_25 rfl ?_
    exact ⟨rfl, rfl⟩
  · refine x_iload_n hO dX2_digit_11 rfl rfl ?_
    refine x_bipush (v := nI 57) hO dX2_digit_12 rfl ?_
    refine x_icmp_gt (tgt := 24) hO dX2_digit_14 (by decide) (fun c2 => ?_) (fun c2 => ?_)
    · rw [if_neg (by simp [isD, Int32.not_le.mpr c2])] at hR
      refine x_iconst (v := (-1 : Int32)) hO dX2_digit_24 rfl ?_
      refine x_iret hO hR dX2_digit_25 rfl ?_
      exact ⟨rfl, rfl⟩
    · rw [if_pos (by simp [isD, Int32.not_lt.mp c, Int32.not_lt.mp c2])] at hR
      refine x_iload_n hO dX2_digit_17 rfl rfl ?_
      refine x_bipush (v := nI 48) hO dX2_digit_18 rfl ?_
      refine x_isub hO dX2_digit_20 ?_
      refine x_goto (tgt := 25) hO dX2_digit_21 (by decide) ?_
      refine x_iret hO hR dX2_digit_25 rfl ?_
      exact ⟨rfl, rfl⟩
theorem dgI_neg {x : Int32} : dgI x < 0 ↔ isD x = false := by
  unfold dgI
  cases h : isD x with
  | false => simp
  | true =>
    obtain ⟨j, hj, rfl⟩ := isD_n h
    rw [if_pos rfl, pk_sub (by omega)]
    simp
    exact Int32.not_lt.mp (nI_pos (by omega))
theorem dgI_ge {x : Int32} : 0 ≤ dgI x ↔ isD x = true := by
  rw [← Int32.not_lt, dgI_neg]
  simp
theorem k_skip (U : xP) (M : xM) {n p : Nat} (h1 : M 3 1 = nI n) (h2 : M 3 2 = nI p) (hn : n ≤ 60) (hp : p ≤ n) (x : Int32) : xMetI U mX2_skip [.inr 3, .inl x] M (fun r M' => r = bI (sg (M 4) n p == x) ∧ M' = if sg (M 4) n p = x then xset M 3 2 (nI (p + 1)) else M) := by
  refine xMetI.of (ty := .boolean) (L := [some (.inr 3), some (.inl x)]) fX2_skip rfl rfl (Nat.le_of_ble_eq_true rfl) (fun G hN hO hR => ?_)
  have hN : G.2.2.2.2.2.2.2.2.2.2.1 = 2 := hN
  have hO : xOK U G RX2 cX2_skip 1 := hO
  refine x_aload_n hO dX2_skip_0 rfl rfl ?_
  refine x_callV1 hO (k_sign U M h1 h2 hn hp) dX2_skip_1 lkX2_51 fX2_sign vX2_sign (by decide) rfl rfl rfl rfl rfl (by decide) (Nat.le_of_ble_eq_true rfl) ?_
  refine x_iload_n hO dX2_skip_4 rfl rfl ?_
  refine x_icmp_eq (tgt := 10) hO dX2_skip_5 (by decide) (fun c => ?_) (fun c => ?_)
  · rw [if_pos c] at hR
    refine x_aload_n hO dX2_skip_10 rfl rfl ?_
    refine x_dup hO dX2_skip_11 ?_
    refine x_getI (T := TX2) (j := 2) hO dX2_skip_12 flX2_19 (by decide) rfl rfl (by decide) rfl rfl ?_
    refine x_iconst (v := nI 1) hO dX2_skip_15 rfl ?_
    rw [h2]
    refine x_iadd hO dX2_skip_16 ?_
    rw [nI_add]
    refine x_put (T := TX2) (j := 2) (ty := .int) hO dX2_skip_17 flX2_19 (by decide) rfl rfl (by decide) rfl rfl rfl (by decide +kernel) rfl rfl ?_
    refine x_iconst (v := nI 1) hO dX2_skip_20 rfl ?_
    refine x_iret hO hR dX2_skip_21 rfl ?_
    exact ⟨bI_t (by simp [c]), rfl⟩
  · rw [if_neg c] at hR
    refine x_iconst (v := nI 0) hO dX2_skip_8 rfl ?_
    refine x_iret hO hR dX2_skip_9 rfl ?_
    exact ⟨bI_f (by simp [c]), rfl⟩
theorem k_append (U : xP) (M : xM) {n : Nat} (h1 : M 3 1 = nI n) (hn : n ≤ 60) (x : Int32) : xMetI U mX2_append [.inr 3, .inl x] M (fun r M' => r = bI (decide (n < 60)) ∧ M' = if n < 60 then xset (xset M 4 n x) 3 1 (nI (n + 1)) else M) := by
  refine xMetI.of (ty := .boolean) (L := [some (.inr 3), some (.inl x)]) fX2_append rfl rfl (Nat.le_of_ble_eq_true rfl) (fun G hN hO hR => ?_)
  have hN : G.2.2.2.2.2.2.2.2.2.2.1 = 2 := hN
  have hO : xOK U G RX2 cX2_append 0 := hO
  refine x_aload_n hO dX2_append_0 rfl rfl ?_
  refine x_getI (T := TX2) (j := 1) hO dX2_append_1 flX2_15 (by decide) rfl rfl (by decide) rfl rfl ?_
  rw [h1]
  refine x_if_lt (tgt := 16) hO dX2_append_4 (by decide) (fun c => ?_) (fun c => ?_)
  · exact absurd c (nI_pos (by omega))
  · refine x_aload_n hO dX2_append_7 rfl rfl ?_
    refine x_getI (T := TX2) (j := 1) hO dX2_append_8 flX2_15 (by decide) rfl rfl (by decide) rfl rfl ?_
    refine x_bipush (v := nI 60) hO dX2_append_11 rfl ?_
    rw [h1]
    refine x_icmp_lt (tgt := 18) hO dX2_append_13 (by decide) (fun c2 => ?_) (fun c2 => ?_)
    · have q : n < 60 := (nI_ltI (by omega) (by decide)).mp c2
      rw [if_pos q] at hR
      refine x_aload_n hO dX2_append_18 rfl rfl ?_
      refine x_getR (T := TX2) (j := 0) hO dX2_append_19 flX2_11 (by decide) rfl rfl (by decide) rfl rfl ?_
      refine x_aload_n hO dX2_append_22 rfl rfl ?_
      refine x_getI (T := TX2) (j := 1) hO dX2_append_23 flX2_15 (by decide) rfl rfl (by decide) rfl rfl ?_
      refine x_iload_n hO dX2_append_26 rfl rfl ?_
      refine x_iast hO (by decide) rfl (by decide) (h1) (q) dX2_append_27 ?_
      refine x_aload_n hO dX2_append_28 rfl rfl ?_
      refine x_dup hO dX2_append_29 ?_
      refine x_getI (T := TX2) (j := 1) hO dX2_append_30 flX2_15 (by decide) rfl rfl (by decide) rfl rfl ?_
      have e : xset M 4 n x 3 1 = nI n := by rw [xset_at, if_neg (by decide), h1]
      rw [e]
      refine x_iconst (v := nI 1) hO dX2_append_33 rfl ?_
      refine x_iadd hO dX2_append_34 ?_
      rw [nI_add]
      refine x_put (T := TX2) (j := 1) (ty := .int) hO dX2_append_35 flX2_15 (by decide) rfl rfl (by decide) rfl rfl rfl (by decide +kernel) rfl rfl ?_
      refine x_iconst (v := nI 1) hO dX2_append_38 rfl ?_
      refine x_iret hO hR dX2_append_39 rfl ?_
      exact ⟨bI_t (by simp [q]), rfl⟩
    · have q : ¬ n < 60 := fun z => c2 ((nI_ltI (by omega) (by decide)).mpr z)
      rw [if_neg q] at hR
      refine x_iconst (v := nI 0) hO dX2_append_16 rfl ?_
      refine x_iret hO hR dX2_append_17 rfl ?_
      exact ⟨bI_f (by simp [q]), rfl⟩
theorem k_readEntry (U : xP) (M : xM) {n p r : Nat} (h1 : M 3 1 = nI n) (h2 : M 3 2 = nI p) (hn : n ≤ 60) (hp : p ≤ n) (hr : r < 5) : xMetI U mX2_readEntry [.inr 3, .inl (nI r)] M (fun v M' => v = bI (decide (rE (M 4) n p = 8)) ∧ M' 3 = upd (M 3) 2 (nI (p + rE (M 4) n p)) ∧ (rE (M 4) n p = 8 → M' 5 = upd (M 5) r (nI (eM (M 4) p 8)) ∧ M' 6 = upd (M 6) r (nI (eV (M 4) p 8))) ∧ ∀ k, k ≠ 3 → k ≠ 5 → k ≠ 6 → M' k = M k) := by
  refine xMetI.of (ty := .boolean) (L := [some (.inr 3), some (.inl (nI r)), none, none, none, none]) fX2_readEntry rfl rfl (Nat.le_of_ble_eq_true rfl) (fun G hN hO hR => ?_)
  have hN : G.2.2.2.2.2.2.2.2.2.2.1 = 6 := hN
  have hO : xOK U G RX2 cX2_readEntry 1 := hO
  generalize hg : rE (M 4) n p = g at hR
  have hge : g ≤ 8 := by rw [← hg]; exact rE_le _ _ _
  refine x_iconst (v := nI 0) hO dX2_readEntry_0 rfl ?_
  refine x_istore_n (n := 6) hO dX2_readEntry_1 rfl rfl (by decide) hN ?_
  refine x_iconst (v := nI 0) hO dX2_readEntry_2 rfl ?_
  refine x_istore_n (n := 6) hO dX2_readEntry_3 rfl rfl (by decide) hN ?_
  refine x_sipush (v := nI 128) hO dX2_readEntry_4 rfl ?_
  refine x_istore (n := 6) hO dX2_readEntry_7 rfl (by decide) hN ?_
  refine upd_ind (P := fun i d => ∀ (o : Option xV) (M1 : xM), p + i ≤ n ∨ i = 0 → nF (fun i => !isBt (sg (M 4) n (p + i))) i d = g → M1 3 = upd (M 3) 2 (nI (p + i)) → (∀ k, k ≠ 3 → M1 k = M k) → XW U G 9 [some (.inr 3), some (.inl (nI r)), some (.inl (nI (eM (M 4) p i))), some (.inl (nI (eV (M 4) p i))), some (.inl (nI (128 / 2 ^ i))), o] [] M1) 8 ?_ ?_ 8 0 rfl _ M (Or.inr rfl) hg ?_ (fun k _ => rfl)
  · intro o M1 _ hg2 h3 h4
    have g8 : g = 8 := hg2.symm
    subst g8
    refine x_iload hO dX2_readEntry_9 rfl ?_
    refine x_if_le (tgt := 94) hO dX2_readEntry_11 (by decide) (fun c => ?_) (fun c => ?_)
    · refine x_iload_n hO dX2_readEntry_94 rfl rfl ?_
      refine x_if_lt (tgt := 117) hO dX2_readEntry_95 (by decide) (fun c1 => ?_) (fun c1 => ?_)
      · exact absurd c1 (nI_pos (by omega))
      · refine x_iload_n hO dX2_readEntry_98 rfl rfl ?_
        refine x_iconst (v := nI 5) hO dX2_readEntry_99 rfl ?_
        refine x_icmp_ge (tgt := 117) hO dX2_readEntry_100 (by decide) (fun c2 => ?_) (fun c2 => ?_)
        · exact absurd c2 (nI_ge hr (by decide))
        · refine x_aload_n hO dX2_readEntry_103 rfl rfl ?_
          refine x_getR (T := TX2) (j := 4) hO dX2_readEntry_104 flX2_25 (by decide) rfl rfl (by decide) rfl rfl ?_
          refine x_iload_n hO dX2_readEntry_107 rfl rfl ?_
          refine x_iload_n hO dX2_readEntry_108 rfl rfl ?_
          refine x_iast hO (by decide) rfl (by decide) (rfl) (hr) dX2_readEntry_109 ?_
          refine x_aload_n hO dX2_readEntry_110 rfl rfl ?_
          refine x_getR (T := TX2) (j := 5) hO dX2_readEntry_111 flX2_28 (by decide) rfl rfl (by decide) rfl rfl ?_
          refine x_iload_n hO dX2_readEntry_114 rfl rfl ?_
          refine x_iload_n hO dX2_readEntry_115 rfl rfl ?_
          refine x_iast hO (by decide) rfl (by decide) (rfl) (hr) dX2_readEntry_116 ?_
          refine x_iconst (v := nI 1) hO dX2_readEntry_117 rfl ?_
          refine x_iret hO hR dX2_readEntry_118 rfl ?_
          refine ⟨bI_t rfl, ?_, fun _ => ⟨?_, ?_⟩, fun k n3 n5 n6 => ?_⟩
          · rw [xset_ne _ _ _ (by decide), xset_ne _ _ _ (by decide)]
            exact h3
          · rw [xset_ne _ _ _ (by decide), xset_same, h4 5 (by decide)]
          · rw [xset_same, xset_ne _ _ _ (by decide), h4 6 (by decide)]
          · rw [xset_ne _ _ _ n6, xset_ne _ _ _ n5, h4 k n3]
    · exact absurd (by decide) c
  · intro i d hd ih o M1 hpi hg2 h3 h4
    have hi : i < 8 := by omega
    have b31 : M1 3 1 = nI n := by rw [h3]; exact h1
    have b32 : M1 3 2 = nI (p + i) := by rw [h3]; rfl
    have hpos : 0 < 128 / 2 ^ i := by
      obtain rfl | rfl | rfl | rfl | rfl | rfl | rfl | rfl : i = 0 ∨ i = 1 ∨ i = 2 ∨ i = 3 ∨ i = 4 ∨ i = 5 ∨ i = 6 ∨ i = 7 := by omega
      all_goals decide
    have hle : 128 / 2 ^ i ≤ 128 := Nat.div_le_self _ _
    have hh : 128 / 2 ^ i / 2 = 128 / 2 ^ (i + 1) := by rw [Nat.div_div_eq_div_mul, Nat.pow_succ]
    refine x_iload hO dX2_readEntry_9 rfl ?_
    refine x_if_le (tgt := 94) hO dX2_readEntry_11 (by decide) (fun c => ?_) (fun c => ?_)
    · exact absurd c (nI_nle hpos (by omega))
    · refine x_aload_n hO dX2_readEntry_14 rfl rfl ?_
      refine x_callV1 hO (k_sign U M1 b31 b32 hn (by omega)) dX2_readEntry_15 lkX2_51 fX2_sign vX2_sign (by decide) rfl rfl rfl rfl rfl (by decide) (Nat.le_of_ble_eq_true rfl) ?_
      rw [h4 4 (by decide)]
      have tail : ∀ (m v : Nat), m = eM (M 4) p (i + 1) → v = eV (M 4) p (i + 1) → isBt (sg (M 4) n (p + i)) = true → ∀ o, XW U G 75 [some (.inr 3), some (.inl (nI r)), some (.inl (nI m)), some (.inl (nI v)), some (.inl (nI (128 / 2 ^ i))), o] [] M1 := by
        intro m v hm hv hb o
        have hlt := isBt_lt hb
        refine x_aload_n hO dX2_readEntry_75 rfl rfl ?_
        refine x_dup hO dX2_readEntry_76 ?_
        refine x_getI (T := TX2) (j := 2) hO dX2_readEntry_77 flX2_19 (by decide) rfl rfl (by decide) rfl rfl ?_
        rw [b32]
        refine x_iconst (v := nI 1) hO dX2_readEntry_80 rfl ?_
        refine x_iadd hO dX2_readEntry_81 ?_
        rw [nI_add]
        refine x_put (T := TX2) (j := 2) (ty := .int) hO dX2_readEntry_82 flX2_19 (by decide) rfl rfl (by decide) rfl rfl rfl (by decide +kernel) rfl rfl ?_
        refine x_iload hO dX2_readEntry_85 rfl ?_
        have n2 : ¬ nI 2 = 0 := by decide
        refine x_iconst (v := nI 2) hO dX2_readEntry_87 rfl ?_
        refine x_idiv hO dX2_readEntry_88 (n2) ?_
        rw [pk_div (by omega) (by decide) (by decide), hh, hm, hv]
        refine x_istore (n := 6) hO dX2_readEntry_89 rfl (by decide) hN ?_
        refine x_goto (tgt := 9) hO dX2_readEntry_91 (by decide) ?_
        refine ih _ _ (Or.inl (by omega)) (by rw [← hg2, nF_f (P := fun i => !isBt (sg (M 4) n (p + i))) (by simp [hb])]) ?_ (fun k hk => ?_)
        · rw [xset_same, h3, upd_up]
          rfl
        · rw [xset_ne _ _ _ hk, h4 k hk]
      have good : isBt (sg (M 4) n (p + i)) = true → XW U G 43 [some (.inr 3), some (.inl (nI r)), some (.inl (nI (eM (M 4) p i))), some (.inl (nI (eV (M 4) p i))), some (.inl (nI (128 / 2 ^ i))), some (.inl (sg (M 4) n (p + i)))] [] M1 := by
        intro hb
        have hs : sg (M 4) n (p + i) = M 4 (p + i) := sg_in (isBt_lt hb)
        have second : ∀ m : Nat, m = eM (M 4) p (i + 1) → XW U G 59 [some (.inr 3), some (.inl (nI r)), some (.inl (nI m)), some (.inl (nI (eV (M 4) p i))), some (.inl (nI (128 / 2 ^ i))), some (.inl (sg (M 4) n (p + i)))] [] M1 := by
          intro m hm
          refine x_iload_n hO dX2_readEntry_59 rfl rfl ?_
          refine x_iload hO dX2_readEntry_60 rfl ?_
          refine x_bipush (v := nI 49) hO dX2_readEntry_62 rfl ?_
          refine x_icmp_ne (tgt := 72) hO dX2_readEntry_64 (by decide) (fun c5 => ?_) (fun c5 => ?_)
          · refine x_iconst (v := nI 0) hO dX2_readEntry_72 rfl ?_
            refine x_iadd hO dX2_readEntry_73 ?_
            rw [nI_add]
            refine x_istore_n (n := 6) hO dX2_readEntry_74 rfl rfl (by decide) hN ?_
            exact tail m _ hm (by simp only [eV]; rw [if_neg (by rw [← hs]; exact c5)]) hb _
          · refine x_iload hO dX2_readEntry_67 rfl ?_
            refine x_goto (tgt := 73) hO dX2_readEntry_69 (by decide) ?_
            refine x_iadd hO dX2_readEntry_73 ?_
            rw [nI_add]
            refine x_istore_n (n := 6) hO dX2_readEntry_74 rfl rfl (by decide) hN ?_
            exact tail m _ hm (by simp only [eV]; rw [if_pos (by rw [← hs]; exact c5)]) hb _
        refine x_iload_n hO dX2_readEntry_43 rfl rfl ?_
        refine x_iload hO dX2_readEntry_44 rfl ?_
        refine x_bipush (v := nI 42) hO dX2_readEntry_46 rfl ?_
        refine x_icmp_ne (tgt := 55) hO dX2_readEntry_48 (by decide) (fun c5 => ?_) (fun c5 => ?_)
        · refine x_iload hO dX2_readEntry_55 rfl ?_
          refine x_iadd hO dX2_readEntry_57 ?_
          rw [nI_add]
          refine x_istore_n (n := 6) hO dX2_readEntry_58 rfl rfl (by decide) hN ?_
          exact second _ (by simp only [eM]; rw [if_neg (by rw [← hs]; exact c5)])
        · refine x_iconst (v := nI 0) hO dX2_readEntry_51 rfl ?_
          refine x_goto (tgt := 57) hO dX2_readEntry_52 (by decide) ?_
          refine x_iadd hO dX2_readEntry_57 ?_
          rw [nI_add]
          refine x_istore_n (n := 6) hO dX2_readEntry_58 rfl rfl (by decide) hN ?_
          exact second _ (by simp only [eM]; rw [if_pos (by rw [← hs]; exact c5)])
      refine x_istore (n := 6) hO dX2_readEntry_18 rfl (by decide) hN ?_
      refine x_iload hO dX2_readEntry_20 rfl ?_
      refine x_bipush (v := nI 48) hO dX2_readEntry_22 rfl ?_
      refine x_icmp_eq (tgt := 43) hO dX2_readEntry_24 (by decide) (fun c1 => ?_) (fun c1 => ?_)
      · exact good (by simp [isBt, c1])
      · refine x_iload hO dX2_readEntry_27 rfl ?_
        refine x_bipush (v := nI 49) hO dX2_readEntry_29 rfl ?_
        refine x_icmp_eq (tgt := 43) hO dX2_readEntry_31 (by decide) (fun c2 => ?_) (fun c2 => ?_)
        · exact good (by simp [isBt, c2])
        · refine x_iload hO dX2_readEntry_34 rfl ?_
          refine x_bipush (v := nI 42) hO dX2_readEntry_36 rfl ?_
          refine x_icmp_eq (tgt := 43) hO dX2_readEntry_38 (by decide) (fun c3 => ?_) (fun c3 => ?_)
          · exact good (by simp [isBt, c3])
          · refine x_iconst (v := nI 0) hO dX2_readEntry_41 rfl ?_
            refine x_iret hO hR dX2_readEntry_42 rfl ?_
            have hgi : g = i := by rw [← hg2, nF_t (P := fun i => !isBt (sg (M 4) n (p + i))) (by simp [isBt, c1, c2, c3])]
            subst hgi
            exact ⟨bI_f (by simp; omega), h3, fun z => by omega, fun k n3 _ _ => h4 k n3⟩
  · funext j
    rw [upd_at]
    split
    · rename_i e
      rw [e]
      exact h2
    · rfl
theorem k_readRank (U : xP) (M : xM) {n p r : Nat} (h1 : M 3 1 = nI n) (h2 : M 3 2 = nI p) (hn : n ≤ 60) (hp : p ≤ n) (hr : r < 5) : xMetI U mX2_readRank [.inr 3, .inl (nI r)] M (fun v M' => v = bI (isD (sg (M 4) n p)) ∧ M' 3 = upd (M 3) 2 (nI (if isD (sg (M 4) n p) then (if isD (sg (M 4) n (p + 1)) then p + 2 else p + 1) else p)) ∧ (isD (sg (M 4) n p) = true → M' 7 = upd (M 7) r (if isD (sg (M 4) n (p + 1)) then nI 10 * (M 4 p - nI 48) + (M 4 (p + 1) - nI 48) else M 4 p - nI 48)) ∧ ∀ k, k ≠ 3 → k ≠ 7 → M' k = M k) := by
  refine xMetI.of (ty := .boolean) (L := [some (.inr 3), some (.inl (nI r)), none, none]) fX2_readRank rfl rfl (Nat.le_of_ble_eq_true rfl) (fun G hN hO hR => ?_)
  have hN : G.2.2.2.2.2.2.2.2.2.2.1 = 4 := hN
  have hO : xOK U G RX2 cX2_readRank 2 := hO
  have u0 : upd (M 3) 2 (nI p) = M 3 := by
    funext j
    rw [upd_at]
    split
    · rename_i e
      rw [e, h2]
    · rfl
  refine x_aload_n hO dX2_readRank_0 rfl rfl ?_
  refine x_callV1 hO (k_digit U M h1 h2 hn hp) dX2_readRank_1 lkX2_55 fX2_digit vX2_digit (by decide) rfl rfl rfl rfl rfl (by decide) (Nat.le_of_ble_eq_true rfl) ?_
  refine x_istore_n (n := 4) hO dX2_readRank_4 rfl rfl (by decide) hN ?_
  refine x_iload_n hO dX2_readRank_5 rfl rfl ?_
  refine x_if_ge (tgt := 11) hO dX2_readRank_6 (by decide) (fun c => ?_) (fun c => ?_)
  · have q := dgI_ge.mp c
    have hlt := isD_lt q
    rw [q] at hR
    simp only [if_true] at hR
    have e1 : dgI (sg (M 4) n p) = M 4 p - nI 48 := by unfold dgI; rw [q, if_pos rfl, sg_in hlt]
    rw [e1]
    refine x_aload_n hO dX2_readRank_11 rfl rfl ?_
    refine x_dup hO dX2_readRank_12 ?_
    refine x_getI (T := TX2) (j := 2) hO dX2_readRank_13 flX2_19 (by decide) rfl rfl (by decide) rfl rfl ?_
    rw [h2]
    refine x_iconst (v := nI 1) hO dX2_readRank_16 rfl ?_
    refine x_iadd hO dX2_readRank_17 ?_
    rw [nI_add]
    refine x_put (T := TX2) (j := 2) (ty := .int) hO dX2_readRank_18 flX2_19 (by decide) rfl rfl (by decide) rfl rfl rfl (by decide +kernel) rfl rfl ?_
    refine x_aload_n hO dX2_readRank_21 rfl rfl ?_
    have b31 : xset M 3 2 (nI (p + 1)) 3 1 = nI n := by rw [xset_at, if_pos rfl, if_neg (by decide), h1]
    have b32 : xset M 3 2 (nI (p + 1)) 3 2 = nI (p + 1) := by rw [xset_at, if_pos rfl, if_pos rfl]
    have b4 : xset M 3 2 (nI (p + 1)) 4 = M 4 := xset_ne _ _ _ (by decide)
    have b3 : xset M 3 2 (nI (p + 1)) 3 = upd (M 3) 2 (nI (p + 1)) := xset_same ..
    have bk : ∀ k, k ≠ 3 → xset M 3 2 (nI (p + 1)) k = M k := fun k hk => xset_ne _ _ _ hk
    generalize xset M 3 2 (nI (p + 1)) = M1 at *
    refine x_callV1 hO (k_digit U M1 b31 b32 hn (by omega)) dX2_readRank_22 lkX2_55 fX2_digit vX2_digit (by decide) rfl rfl rfl rfl rfl (by decide) (Nat.le_of_ble_eq_true rfl) ?_
    rw [b4]
    refine x_istore_n (n := 4) hO dX2_readRank_25 rfl rfl (by decide) hN ?_
    refine x_iload_n hO dX2_readRank_26 rfl rfl ?_
    have tail : ∀ (x : Int32) (o : Option xV) (M2 : xM) (p2 : Nat), M2 3 = upd (M 3) 2 (nI p2) → (∀ k, k ≠ 3 → M2 k = M k) → p2 = (if isD (sg (M 4) n (p + 1)) then p + 2 else p + 1) → x = (if isD (sg (M 4) n (p + 1)) then nI 10 * (M 4 p - nI 48) + (M 4 (p + 1) - nI 48) else M 4 p - nI 48) → XW U G 47 [some (.inr 3), some (.inl (nI r)), some (.inl x), o] [] M2 := by
      intro x o M2 p2 g1 g2 g3 g4
      refine x_iload_n hO dX2_readRank_47 rfl rfl ?_
      refine x_if_lt (tgt := 63) hO dX2_readRank_48 (by decide) (fun c1 => ?_) (fun c1 => ?_)
      · exact absurd c1 (nI_pos (by omega))
      · refine x_iload_n hO dX2_readRank_51 rfl rfl ?_
        refine x_iconst (v := nI 5) hO dX2_readRank_52 rfl ?_
        refine x_icmp_ge (tgt := 63) hO dX2_readRank_53 (by decide) (fun c2 => ?_) (fun c2 => ?_)
        · exact absurd c2 (nI_ge hr (by decide))
        · refine x_aload_n hO dX2_readRank_56 rfl rfl ?_
          refine x_getR (T := TX2) (j := 6) hO dX2_readRank_57 flX2_31 (by decide) rfl rfl (by decide) rfl rfl ?_
          refine x_iload_n hO dX2_readRank_60 rfl rfl ?_
          refine x_iload_n hO dX2_readRank_61 rfl rfl ?_
          refine x_iast hO (by decide) rfl (by decide) (rfl) (hr) dX2_readRank_62 ?_
          refine x_iconst (v := nI 1) hO dX2_readRank_63 rfl ?_
          refine x_iret hO hR dX2_readRank_64 rfl ?_
          refine ⟨rfl, ?_, fun _ => ?_, fun k n3 n7 => ?_⟩
          · rw [xset_ne _ _ _ (by decide), g1, g3]
          · rw [xset_same, g2 7 (by decide), g4]
          · rw [xset_ne _ _ _ n7, g2 k n3]
    refine x_if_lt (tgt := 47) hO dX2_readRank_27 (by decide) (fun c1 => ?_) (fun c1 => ?_)
    · have q2 := dgI_neg.mp c1
      rw [q2] at tail
      exact tail _ _ M1 (p + 1) b3 bk (by simp) (by simp)
    · have q2 := dgI_ge.mp (Int32.not_lt.mp c1)
      have hlt2 := isD_lt q2
      have e2 : dgI (sg (M 4) n (p + 1)) = M 4 (p + 1) - nI 48 := by unfold dgI; rw [q2, if_pos rfl, sg_in hlt2]
      rw [q2] at tail
      rw [e2]
      refine x_bipush (v := nI 10) hO dX2_readRank_30 rfl ?_
      refine x_iload_n hO dX2_readRank_32 rfl rfl ?_
      refine x_imul hO dX2_readRank_33 ?_
      refine x_iload_n hO dX2_readRank_34 rfl rfl ?_
      refine x_iadd hO dX2_readRank_35 ?_
      refine x_istore_n (n := 4) hO dX2_readRank_36 rfl rfl (by decide) hN ?_
      refine x_aload_n hO dX2_readRank_37 rfl rfl ?_
      refine x_dup hO dX2_readRank_38 ?_
      refine x_getI (T := TX2) (j := 2) hO dX2_readRank_39 flX2_19 (by decide) rfl rfl (by decide) rfl rfl ?_
      rw [b32]
      refine x_iconst (v := nI 1) hO dX2_readRank_42 rfl ?_
      refine x_iadd hO dX2_readRank_43 ?_
      rw [nI_add]
      refine x_put (T := TX2) (j := 2) (ty := .int) hO dX2_readRank_44 flX2_19 (by decide) rfl rfl (by decide) rfl rfl rfl (by decide +kernel) rfl rfl ?_
      exact tail _ _ _ (p + 2) (by rw [xset_same, b3, upd_up]) (fun k hk => by rw [xset_ne _ _ _ hk, bk k hk]) (by simp) (by simp)
  · have q := dgI_neg.mp (Int32.not_le.mp c)
    rw [q] at hR
    simp only [if_false, Bool.false_eq_true] at hR
    refine x_iconst (v := nI 0) hO dX2_readRank_9 rfl ?_
    refine x_iret hO hR dX2_readRank_10 rfl ?_
    exact ⟨rfl, u0.symm, fun z => absurd z (by simp), fun k _ _ => rfl⟩
theorem k_readAction (U : xP) (M : xM) {n p r : Nat} (h1 : M 3 1 = nI n) (h2 : M 3 2 = nI p) (hn : n ≤ 60) (hp : p ≤ n) (hr : r < 5) : xMetI U mX2_readAction [.inr 3, .inl (nI r)] M (fun v M' => v = bI (isD (sg (M 4) n p)) ∧ M' 3 = upd (M 3) 2 (nI (if isD (sg (M 4) n p) then p + 1 else p)) ∧ (isD (sg (M 4) n p) = true → M' 8 = upd (M 8) r (M 4 p - nI 48)) ∧ ∀ k, k ≠ 3 → k ≠ 8 → M' k = M k) := by
  refine xMetI.of (ty := .boolean) (L := [some (.inr 3), some (.inl (nI r)), none]) fX2_readAction rfl rfl (Nat.le_of_ble_eq_true rfl) (fun G hN hO hR => ?_)
  have hN : G.2.2.2.2.2.2.2.2.2.2.1 = 3 := hN
  have hO : xOK U G RX2 cX2_readAction 2 := hO
  have u0 : upd (M 3) 2 (nI p) = M 3 := by
    funext j
    rw [upd_at]
    split
    · rename_i e
      rw [e, h2]
    · rfl
  refine x_aload_n hO dX2_readAction_0 rfl rfl ?_
  refine x_callV1 hO (k_digit U M h1 h2 hn hp) dX2_readAction_1 lkX2_55 fX2_digit vX2_digit (by decide) rfl rfl rfl rfl rfl (by decide) (Nat.le_of_ble_eq_true rfl) ?_
  refine x_istore_n (n := 3) hO dX2_readAction_4 rfl rfl (by decide) hN ?_
  refine x_iload_n hO dX2_readAction_5 rfl rfl ?_
  refine x_if_ge (tgt := 11) hO dX2_readAction_6 (by decide) (fun c => ?_) (fun c => ?_)
  · have q := dgI_ge.mp c
    have hlt := isD_lt q
    rw [q] at hR
    simp only [if_true] at hR
    have e1 : dgI (sg (M 4) n p) = M 4 p - nI 48 := by unfold dgI; rw [q, if_pos rfl, sg_in hlt]
    rw [e1]
    refine x_aload_n hO dX2_readAction_11 rfl rfl ?_
    refine x_dup hO dX2_readAction_12 ?_
    refine x_getI (T := TX2) (j := 2) hO dX2_readAction_13 flX2_19 (by decide) rfl rfl (by decide) rfl rfl ?_
    rw [h2]
    refine x_iconst (v := nI 1) hO dX2_readAction_16 rfl ?_
    refine x_iadd hO dX2_readAction_17 ?_
    rw [nI_add]
    refine x_put (T := TX2) (j := 2) (ty := .int) hO dX2_readAction_18 flX2_19 (by decide) rfl rfl (by decide) rfl rfl rfl (by decide +kernel) rfl rfl ?_
    refine x_iload_n hO dX2_readAction_21 rfl rfl ?_
    refine x_if_lt (tgt := 37) hO dX2_readAction_22 (by decide) (fun c1 => ?_) (fun c1 => ?_)
    · exact absurd c1 (nI_pos (by omega))
    · refine x_iload_n hO dX2_readAction_25 rfl rfl ?_
      refine x_iconst (v := nI 5) hO dX2_readAction_26 rfl ?_
      refine x_icmp_ge (tgt := 37) hO dX2_readAction_27 (by decide) (fun c2 => ?_) (fun c2 => ?_)
      · exact absurd c2 (nI_ge hr (by decide))
      · refine x_aload_n hO dX2_readAction_30 rfl rfl ?_
        refine x_getR (T := TX2) (j := 7) hO dX2_readAction_31 flX2_34 (by decide) rfl rfl (by decide) rfl rfl ?_
        refine x_iload_n hO dX2_readAction_34 rfl rfl ?_
        refine x_iload_n hO dX2_readAction_35 rfl rfl ?_
        refine x_iast hO (by decide) rfl (by decide) (rfl) (hr) dX2_readAction_36 ?_
        refine x_iconst (v := nI 1) hO dX2_readAction_37 rfl ?_
        refine x_iret hO hR dX2_readAction_38 rfl ?_
        refine ⟨rfl, ?_, fun _ => ?_, fun k n3 n7 => ?_⟩
        · rw [xset_ne _ _ _ (by decide), xset_same]
        · rw [xset_same, xset_ne _ _ _ (by decide)]
        · rw [xset_ne _ _ _ n7, xset_ne _ _ _ n3]
  · have q := dgI_neg.mp (Int32.not_le.mp c)
    rw [q] at hR
    simp only [if_false, Bool.false_eq_true] at hR
    refine x_iconst (v := nI 0) hO dX2_readAction_9 rfl ?_
    refine x_iret hO hR dX2_readAction_10 rfl ?_
    exact ⟨rfl, u0.symm, fun z => absurd z (by simp), fun k _ _ => rfl⟩
end
section
/-! ===== RuleText.readRules ===== -/
/-- what has been read of the first i rules -/
def tDat (T : tT) (n i : Nat) (M : xM) : Prop := ∀ j, j < i → M 5 j = nI (eM T (tB T n j) 8) ∧ M 6 j = nI (eV T (tB T n j) 8) ∧ M 7 j = rRank T n (tB T n j) ∧ M 8 j = rAct T n (tB T n j)
theorem tDat_s {T : tT} {n i : Nat} {M M' : xM} (h : tDat T n i M) (h5 : M' 5 = upd (M 5) i (nI (eM T (tB T n i) 8))) (h6 : M' 6 = upd (M 6) i (nI (eV T (tB T n i) 8))) (h7 : M' 7 = upd (M 7) i (rRank T n (tB T n i))) (h8 : M' 8 = upd (M 8) i (rAct T n (tB T n i))) : tDat T n (i + 1) M' := by
  intro j hj
  rw [h5, h6, h7, h8]
  simp only [upd_at]
  by_cases e : j = i
  · subst e
    simp
  · simp only [if_neg e]
    exact h j (by omega)
theorem k_readRules (U : xP) (M : xM) {n : Nat} (h1 : M 3 1 = nI n) (hn : n ≤ 60) : xMetI U mX2_readRules [.inr 3] M (fun r M' => r = (if (tx (M 4) n 5 0 0).1 then -1 else nI (tx (M 4) n 5 0 0).2.1) ∧ ((tx (M 4) n 5 0 0).1 = true → M' 3 3 = nI (tx (M 4) n 5 0 0).2.2 ∧ tDat (M 4) n (tx (M 4) n 5 0 0).2.2 M') ∧ M' 3 1 = nI n ∧ ∀ k, k ≠ 3 → k ≠ 5 → k ≠ 6 → k ≠ 7 → k ≠ 8 → M' k = M k) := by
  refine xMetI.of (ty := .int) (L := [some (.inr 3), none]) fX2_readRules rfl rfl (Nat.le_of_ble_eq_true rfl) (fun G hN hO hR => ?_)
  have hN : G.2.2.2.2.2.2.2.2.2.2.1 = 2 := hN
  have hO : xOK U G RX2 cX2_readRules 3 := hO
  have hM4 : M 4 = M 4 := rfl
  generalize hT : M 4 = T at hR hM4
  generalize hg : tx T n 5 0 0 = g at hR
  refine x_aload_n hO dX2_readRules_0 rfl rfl ?_
  refine x_iconst (v := nI 0) hO dX2_readRules_1 rfl ?_
  refine x_put (T := TX2) (j := 2) (ty := .int) hO dX2_readRules_2 flX2_19 (by decide) rfl rfl (by decide) rfl rfl rfl (by decide +kernel) rfl rfl ?_
  refine x_aload_n hO dX2_readRules_5 rfl rfl ?_
  refine x_iconst (v := nI 0) hO dX2_readRules_6 rfl ?_
  refine x_put (T := TX2) (j := 3) (ty := .int) hO dX2_readRules_7 flX2_22 (by decide) rfl rfl (by decide) rfl rfl rfl (by decide +kernel) rfl rfl ?_
  refine x_iconst (v := nI 0) hO dX2_readRules_10 rfl ?_
  refine x_istore_n (n := 2) hO dX2_readRules_11 rfl rfl (by decide) hN ?_
  refine upd_ind (P := fun i d => ∀ (M1 : xM), M1 3 1 = nI n → M1 3 2 = nI (tB T n i) → M1 3 3 = nI i → tB T n i ≤ n → tDat T n i M1 → (∀ k, k ≠ 3 → k ≠ 5 → k ≠ 6 → k ≠ 7 → k ≠ 8 → M1 k = M k) → tx T n d (tB T n i) i = g → XW U G 12 [some (.inr 3), some (.inl (nI i))] [] M1) 5 ?_ ?_ 5 0 rfl _ ?_ ?_ ?_ (Nat.zero_le _) (fun j hj => absurd hj (Nat.not_lt_zero _)) (fun k h3 _ _ _ _ => ?_) hg
  · intro M1 a1 a2 a3 a4 a5 a6 hg2
    simp only [tx] at hg2
    refine x_iload_n hO dX2_readRules_12 rfl rfl ?_
    refine x_iconst (v := nI 5) hO dX2_readRules_13 rfl ?_
    refine x_icmp_ge (tgt := 107) hO dX2_readRules_14 (by decide) (fun c => ?_) (fun c => ?_)
    · refine x_aload_n hO dX2_readRules_107 rfl rfl ?_
      refine x_getI (T := TX2) (j := 2) hO dX2_readRules_108 flX2_19 (by decide) rfl rfl (by decide) rfl rfl ?_
      rw [a2]
      refine x_iret hO hR dX2_readRules_111 rfl ?_
      rw [← hg2]
      exact ⟨rfl, fun z => absurd z (by simp), a1, a6⟩
    · exact absurd (Int32.le_refl _) c
  · intro i d hd ih M1 a1 a2 a3 a4 a5 a6 hg2
    have hi : i < 5 := by omega
    have b4 : M1 4 = T := by rw [a6 4 (by decide) (by decide) (by decide) (by decide) (by decide), hT]
    simp only [tx] at hg2
    generalize hp : tB T n i = p at *
    refine x_iload_n hO dX2_readRules_12 rfl rfl ?_
    refine x_iconst (v := nI 5) hO dX2_readRules_13 rfl ?_
    refine x_icmp_ge (tgt := 107) hO dX2_readRules_14 (by decide) (fun c => ?_) (fun c => ?_)
    · exact absurd c (nI_ge hi (by decide))
    · have fail : ∀ M2 : xM, M2 3 1 = nI n → M2 3 2 = nI (rEnd T n p) → (∀ k, k ≠ 3 → k ≠ 5 → k ≠ 6 → k ≠ 7 → k ≠ 8 → M2 k = M k) → rOK T n p = false → XW U G 59 [some (.inr 3), some (.inl (nI i))] [] M2 := by
        intro M2 c1 c2 c3 c4
        rw [c4] at hg2
        refine x_aload_n hO dX2_readRules_59 rfl rfl ?_
        refine x_getI (T := TX2) (j := 2) hO dX2_readRules_60 flX2_19 (by decide) rfl rfl (by decide) rfl rfl ?_
        rw [c2]
        refine x_iret hO hR dX2_readRules_63 rfl ?_
        rw [← hg2]
        exact ⟨rfl, fun z => absurd z (by simp), c1, c3⟩
      refine x_aload_n hO dX2_readRules_17 rfl rfl ?_
      refine x_iload_n hO dX2_readRules_18 rfl rfl ?_
      refine x_callV hO (k_readEntry U M1 (n := n) (p := p) (r := i) a1 a2 hn a4 hi) dX2_readRules_19 lkX2_37 fX2_readEntry vX2_readEntry (by decide) rfl rfl rfl rfl rfl (by decide) (Nat.le_of_ble_eq_true rfl) (fun r Me h2 => ?_)
      obtain ⟨rfl, e3, e56, ek⟩ := h2
      rw [b4] at e3 e56 ⊢
      have f6 : ∀ k, k ≠ 3 → k ≠ 5 → k ≠ 6 → k ≠ 7 → k ≠ 8 → Me k = M k := fun k k3 k5 k6 k7 k8 => by rw [ek k k3 k5 k6, a6 k k3 k5 k6 k7 k8]
      have f1 : Me 3 1 = nI n := by rw [e3]; exact a1
      have f2 : Me 3 2 = nI (p + rE T n p) := by rw [e3]; rfl
      have f3 : Me 3 3 = nI i := by rw [e3]; exact a3
      refine x_if_eq (tgt := 59) hO dX2_readRules_22 (by decide) (fun c1 => ?_) (fun c1 => ?_)
      · have q : ¬ rE T n p = 8 := of_decide_eq_false (bI_0 c1)
        exact fail Me f1 (by rw [f2]; unfold rEnd; rw [if_neg q]) f6 (by unfold rOK; rw [decide_eq_false q]; rfl)
      · have q : rE T n p = 8 := of_decide_eq_true (bI_1 c1)
        have l8 := rE_lt (T := T) (n := n) (p := p) (by omega)
        rw [q] at f2 l8
        obtain ⟨e5, e6⟩ := e56 q
        have g4 : Me 4 = T := by rw [ek 4 (by decide) (by decide) (by decide), b4]
        refine x_aload_n hO dX2_readRules_25 rfl rfl ?_
        refine x_bipush (v := nI 44) hO dX2_readRules_26 rfl ?_
        refine x_callV hO (k_skip U Me (n := n) (p := p + 8) f1 f2 hn l8 (nI 44)) dX2_readRules_28 lkX2_41 fX2_skip vX2_skip (by decide) rfl rfl rfl rfl rfl (by decide) (Nat.le_of_ble_eq_true rfl) (fun r M2 h3 => ?_)
        obtain ⟨rfl, h3⟩ := h3
        rw [g4] at h3 ⊢
        refine x_if_eq (tgt := 59) hO dX2_readRules_31 (by decide) (fun c2 => ?_) (fun c2 => ?_)
        · have q2 : ¬ sg T n (p + 8) = nI 44 := by have := bI_0 c2; simpa using this
          rw [if_neg q2] at h3
          rw [h3]
          exact fail Me f1 (by rw [f2]; unfold rEnd; rw [if_pos q, if_neg q2]) f6 (by unfold rOK; simp [q2])
        · have q2 : sg T n (p + 8) = nI 44 := by have := bI_1 c2; simpa using this
          have l9 := sg_lt q2 (by decide)
          rw [if_pos q2] at h3
          have m3 : M2 3 = upd (Me 3) 2 (nI (p + 9)) := by rw [h3, xset_same]
          have mk : ∀ k, k ≠ 3 → M2 k = Me k := fun k hk => by rw [h3, xset_ne _ _ _ hk]
          clear h3
          have g1 : M2 3 1 = nI n := by rw [m3]; exact f1
          have g2 : M2 3 2 = nI (p + 9) := by rw [m3]; rfl
          have g3 : M2 3 3 = nI i := by rw [m3]; exact f3
          have g6 : ∀ k, k ≠ 3 → k ≠ 5 → k ≠ 6 → k ≠ 7 → k ≠ 8 → M2 k = M k := fun k k3 k5 k6 k7 k8 => by rw [mk k k3, f6 k k3 k5 k6 k7 k8]
          have g44 : M2 4 = T := by rw [mk 4 (by decide), g4]
          refine x_aload_n hO dX2_readRules_34 rfl rfl ?_
          refine x_iload_n hO dX2_readRules_35 rfl rfl ?_
          refine x_callV hO (k_readRank U M2 (n := n) (p := p + 9) (r := i) g1 g2 hn (by omega) hi) dX2_readRules_36 lkX2_45 fX2_readRank vX2_readRank (by decide) rfl rfl rfl rfl rfl (by decide) (Nat.le_of_ble_eq_true rfl) (fun r M3 h4 => ?_)
          obtain ⟨rfl, r3, r7, rk⟩ := h4
          rw [g44] at r3 r7 ⊢
          have s1 : M3 3 1 = nI n := by rw [r3]; exact g1
          have s3 : M3 3 3 = nI i := by rw [r3]; exact g3
          have s6 : ∀ k, k ≠ 3 → k ≠ 5 → k ≠ 6 → k ≠ 7 → k ≠ 8 → M3 k = M k := fun k k3 k5 k6 k7 k8 => by rw [rk k k3 k7, g6 k k3 k5 k6 k7 k8]
          have s44 : M3 4 = T := by rw [rk 4 (by decide) (by decide), g44]
          refine x_if_eq (tgt := 59) hO dX2_readRules_39 (by decide) (fun c3 => ?_) (fun c3 => ?_)
          · have q3 := bI_0 c3
            refine fail M3 s1 ?_ s6 (by unfold rOK; simp [q3])
            rw [r3, q3]
            unfold rEnd
            rw [if_pos q, if_pos q2, q3]
            rfl
          · have q3 := bI_1 c3
            have l10 := isD_lt q3
            have k12 := rK_12 T n p
            have ekk : (if isD (sg T n (p + 9 + 1)) then p + 9 + 2 else p + 9 + 1) = p + 9 + rK T n p := by
              unfold rK
              rw [show p + 9 + 1 = p + 10 from rfl]
              split <;> rfl
            have s2 : M3 3 2 = nI (p + 9 + rK T n p) := by rw [r3, q3, if_pos rfl, ekk]; rfl
            have lk : p + 9 + rK T n p ≤ n := by
              unfold rK
              split
              · rename_i z
                have := isD_lt z
                omega
              · omega
            have s7 := r7 q3
            refine x_aload_n hO dX2_readRules_42 rfl rfl ?_
            refine x_bipush (v := nI 44) hO dX2_readRules_43 rfl ?_
            refine x_callV hO (k_skip U M3 (n := n) (p := p + 9 + rK T n p) s1 s2 hn lk (nI 44)) dX2_readRules_45 lkX2_41 fX2_skip vX2_skip (by decide) rfl rfl rfl rfl rfl (by decide) (Nat.le_of_ble_eq_true rfl) (fun r M4 h5 => ?_)
            obtain ⟨rfl, h5⟩ := h5
            rw [s44] at h5 ⊢
            refine x_if_eq (tgt := 59) hO dX2_readRules_48 (by decide) (fun c4 => ?_) (fun c4 => ?_)
            · have q4 : ¬ sg T n (p + 9 + rK T n p) = nI 44 := by have := bI_0 c4; simpa using this
              rw [if_neg q4] at h5
              rw [h5]
              exact fail M3 s1 (by rw [s2]; unfold rEnd; rw [if_pos q, if_pos q2, if_pos q3, if_neg q4]) s6 (by unfold rOK; simp [q4])
            · have q4 : sg T n (p + 9 + rK T n p) = nI 44 := by have := bI_1 c4; simpa using this
              have l11 := sg_lt q4 (by decide)
              rw [if_pos q4] at h5
              have t3 : M4 3 = upd (M3 3) 2 (nI (p + 9 + rK T n p + 1)) := by rw [h5, xset_same]
              have tk : ∀ k, k ≠ 3 → M4 k = M3 k := fun k hk => by rw [h5, xset_ne _ _ _ hk]
              clear h5
              have t1 : M4 3 1 = nI n := by rw [t3]; exact s1
              have t2 : M4 3 2 = nI (p + 10 + rK T n p) := by rw [t3, show p + 10 + rK T n p = p + 9 + rK T n p + 1 by omega]; rfl
              have t33 : M4 3 3 = nI i := by rw [t3]; exact s3
              have t6 : ∀ k, k ≠ 3 → k ≠ 5 → k ≠ 6 → k ≠ 7 → k ≠ 8 → M4 k = M k := fun k k3 k5 k6 k7 k8 => by rw [tk k k3, s6 k k3 k5 k6 k7 k8]
              have t44 : M4 4 = T := by rw [tk 4 (by decide), s44]
              refine x_aload_n hO dX2_readRules_51 rfl rfl ?_
              refine x_iload_n hO dX2_readRules_52 rfl rfl ?_
              refine x_callV hO (k_readAction U M4 (n := n) (p := p + 10 + rK T n p) (r := i) t1 t2 hn (by omega) hi) dX2_readRules_53 lkX2_48 fX2_readAction vX2_readAction (by decide) rfl rfl rfl rfl rfl (by decide) (Nat.le_of_ble_eq_true rfl) (fun r M5 h6 => ?_)
              obtain ⟨rfl, u3, u8, uk⟩ := h6
              rw [t44] at u3 u8 ⊢
              have v1 : M5 3 1 = nI n := by rw [u3]; exact t1
              have v3 : M5 3 3 = nI i := by rw [u3]; exact t33
              have v6 : ∀ k, k ≠ 3 → k ≠ 5 → k ≠ 6 → k ≠ 7 → k ≠ 8 → M5 k = M k := fun k k3 k5 k6 k7 k8 => by rw [uk k k3 k8, t6 k k3 k5 k6 k7 k8]
              refine x_if_ne (tgt := 64) hO dX2_readRules_56 (by decide) (fun c5 => ?_) (fun c5 => ?_)
              · have q5 := bI_1 c5
                have ok : rOK T n p = true := by
                  unfold rOK
                  rw [decide_eq_true q, q3, q5, beq_iff_eq.mpr q2, beq_iff_eq.mpr q4]
                  rfl
                obtain ⟨en, el⟩ := rOK_end ok
                have v2 : M5 3 2 = nI (rEnd T n p) := by
                  rw [u3, q5, if_pos rfl, en, show p + 11 + rK T n p = p + 10 + rK T n p + 1 by omega]
                  rfl
                have v8 := u8 q5
                rw [ok] at hg2
                simp only [if_true] at hg2
                have dat : tDat T n (i + 1) M5 := by
                  refine tDat_s a5 ?_ ?_ ?_ ?_
                  · rw [hp, uk 5 (by decide) (by decide), tk 5 (by decide), rk 5 (by decide) (by decide), mk 5 (by decide), e5]
                  · rw [hp, uk 6 (by decide) (by decide), tk 6 (by decide), rk 6 (by decide) (by decide), mk 6 (by decide), e6]
                  · rw [hp, uk 7 (by decide) (by decide), tk 7 (by decide), s7, mk 7 (by decide), ek 7 (by decide) (by decide) (by decide)]
                    rfl
                  · rw [hp, v8, tk 8 (by decide), rk 8 (by decide) (by decide), mk 8 (by decide), ek 8 (by decide) (by decide) (by decide)]
                    rfl
                refine x_aload_n hO dX2_readRules_64 rfl rfl ?_
                refine x_dup hO dX2_readRules_65 ?_
                refine x_getI (T := TX2) (j := 3) hO dX2_readRules_66 flX2_22 (by decide) rfl rfl (by decide) rfl rfl ?_
                rw [v3]
                refine x_iconst (v := nI 1) hO dX2_readRules_69 rfl ?_
                refine x_iadd hO dX2_readRules_70 ?_
                rw [nI_add]
                refine x_put (T := TX2) (j := 3) (ty := .int) hO dX2_readRules_71 flX2_22 (by decide) rfl rfl (by decide) rfl rfl rfl (by decide +kernel) rfl rfl ?_
                have w3 : xset M5 3 3 (nI (i + 1)) 3 = upd (M5 3) 3 (nI (i + 1)) := xset_same ..
                have wk : ∀ k, k ≠ 3 → xset M5 3 3 (nI (i + 1)) k = M5 k := fun k hk => xset_ne _ _ _ hk
                generalize xset M5 3 3 (nI (i + 1)) = M6 at *
                have w1 : M6 3 1 = nI n := by rw [w3]; exact v1
                have w2 : M6 3 2 = nI (rEnd T n p) := by rw [w3]; exact v2
                have w33 : M6 3 3 = nI (i + 1) := by rw [w3]; rfl
                have w6 : ∀ k, k ≠ 3 → k ≠ 5 → k ≠ 6 → k ≠ 7 → k ≠ 8 → M6 k = M k := fun k k3 k5 k6 k7 k8 => by rw [wk k k3, v6 k k3 k5 k6 k7 k8]
                have w44 : M6 4 = T := by rw [w6 4 (by decide) (by decide) (by decide) (by decide) (by decide), hT]
                have wd : tDat T n (i + 1) M6 := fun j hj => by
                  rw [wk 5 (by decide), wk 6 (by decide), wk 7 (by decide), wk 8 (by decide)]
                  exact dat j hj
                refine x_aload_n hO dX2_readRules_74 rfl rfl ?_
                refine x_getI (T := TX2) (j := 2) hO dX2_readRules_75 flX2_19 (by decide) rfl rfl (by decide) rfl rfl ?_
                refine x_aload_n hO dX2_readRules_78 rfl rfl ?_
                refine x_getI (T := TX2) (j := 1) hO dX2_readRules_79 flX2_15 (by decide) rfl rfl (by decide) rfl rfl ?_
                rw [w1, w2]
                refine x_icmp_ne (tgt := 87) hO dX2_readRules_82 (by decide) (fun c6 => ?_) (fun c6 => ?_)
                · have q6 : ¬ rEnd T n p = n := fun z => c6 (by rw [z])
                  rw [if_neg q6] at hg2
                  refine x_aload_n hO dX2_readRules_87 rfl rfl ?_
                  refine x_bipush (v := nI 59) hO dX2_readRules_88 rfl ?_
                  refine x_callV hO (k_skip U M6 (n := n) (p := rEnd T n p) w1 w2 hn (by omega) (nI 59)) dX2_readRules_90 lkX2_41 fX2_skip vX2_skip (by decide) rfl rfl rfl rfl rfl (by decide) (Nat.le_of_ble_eq_true rfl) (fun r M7 h7 => ?_)
                  obtain ⟨rfl, h7⟩ := h7
                  rw [w44] at h7 ⊢
                  refine x_if_ne (tgt := 101) hO dX2_readRules_93 (by decide) (fun c7 => ?_) (fun c7 => ?_)
                  · have q7 : sg T n (rEnd T n p) = nI 59 := by have := bI_1 c7; simpa using this
                    have l12 := sg_lt q7 (by decide)
                    rw [if_pos q7] at h7 hg2
                    subst h7
                    refine x_iinc hO dX2_readRules_101 rfl (by first | exact xinc_n _ | rfl) rfl hN ?_
                    refine x_goto (tgt := 12) hO dX2_readRules_104 (by decide) ?_
                    refine ih _ ?_ ?_ ?_ ?_ ?_ ?_ ?_
                    · rw [xset_same]; exact w1
                    · rw [xset_same]
                      show nI (rEnd T n p + 1) = nI (rEnd T n (tB T n i) + 1)
                      rw [hp]
                    · rw [xset_same]; exact w33
                    · show rEnd T n (tB T n i) + 1 ≤ n
                      rw [hp]
                      omega
                    · intro j hj
                      rw [xset_ne _ _ _ (by decide), xset_ne _ _ _ (by decide), xset_ne _ _ _ (by decide), xset_ne _ _ _ (by decide)]
                      exact wd j hj
                    · intro k k3 k5 k6 k7 k8
                      rw [xset_ne _ _ _ k3, w6 k k3 k5 k6 k7 k8]
                    · show tx T n d (rEnd T n (tB T n i) + 1) (i + 1) = g
                      rw [hp]
                      exact hg2
                  · have q7 : ¬ sg T n (rEnd T n p) = nI 59 := by have := bI_0 c7; simpa using this
                    rw [if_neg q7] at h7 hg2
                    subst h7
                    refine x_aload_n hO dX2_readRules_96 rfl rfl ?_
                    refine x_getI (T := TX2) (j := 2) hO dX2_readRules_97 flX2_19 (by decide) rfl rfl (by decide) rfl rfl ?_
                    rw [w2]
                    refine x_iret hO hR dX2_readRules_100 rfl ?_
                    rw [← hg2]
                    exact ⟨rfl, fun z => absurd z (by simp), w1, w6⟩
                · have q6 : rEnd T n p = n := (nI_eq (by omega) (by omega)).mp c6
                  rw [if_pos q6] at hg2
                  refine x_iconst (v := (-1 : Int32)) hO dX2_readRules_85 rfl ?_
                  refine x_iret hO hR dX2_readRules_86 rfl ?_
                  rw [← hg2]
                  exact ⟨rfl, fun _ => ⟨w33, wd⟩, w1, w6⟩
              · have q5 := bI_0 c5
                refine fail M5 v1 ?_ v6 (by unfold rOK; simp [q5])
                rw [u3, q5]
                unfold rEnd
                rw [if_pos q, if_pos q2, if_pos q3, if_pos q4, q5]
                rfl
  · exact h1
  · rfl
  · rfl
  · rw [xset_ne _ _ _ h3, xset_ne _ _ _ h3]
end
