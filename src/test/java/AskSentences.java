/** The promises 15 to 32: what is told without a change. */
final class AskSentences extends Sentences {
    private static final String RULE_IN = "Promise 15";
    private static final String MASK_IN = "Promise 16";
    private static final String VALUE_IN = "Promise 17";
    private static final String SORT_IN = "Promise 18";
    private static final String SLOT_OF = "Promise 19";
    private static final String PARTS = "Promise 20";
    private static final String RANK = "Promise 21";
    private static final String ACTION = "Promise 22";
    private static final String HITS = "Promise 23";
    private static final String FIND = "Promise 24";
    private static final String POWER = "Promise 25";
    private static final String FILTER_MASK = "Promise 26";
    private static final String FILTER_VALUE = "Promise 27";
    private static final String HIDDEN_BY = "Promise 28";
    private static final String KEYS_FOR = "Promise 29";
    private static final String WOULD_MOVE = "Promise 30";
    private static final String ENTRIES_FOR = "Promise 31";
    private static final String TOTAL = "Promise 32";
    private static final String A_RULE_THAT_THERE_IS = "`rule`: a rule that there is";
    private static final String SLOTS_0_TO_31 = "`slot`: 0 to 31";

    /** A range of four parts in the slots 28 to 31, then an exact, a general and an open entry below it. */
    private static TernaryMatcher mixed() {
        TernaryMatcher memory = new TernaryMatcher();
        memory.setPlacing(2);
        memory.addRange(1, 6, 60, 1);
        memory.addRule(0b11111111, 0b11111111, 50, 2);
        memory.addRule(0b11111111, 0b10011001, 40, 3);
        memory.addRule(0b11111111, 0b00000000, 30, 4);
        return memory;
    }

    /** What a call tells of the slots from 24 on, for the entries of mixed(); 24 is free. */
    private static void tells(String name, Call call, int... want) {
        for (int i = 0; i < want.length; i++) {
            is(name + "(" + (24 + i) + ")", call.on(mixed(), 24 + i), want[i]);
        }
    }

    /** UNKNOWN for what is no slot, also if all are free; a free slot is NONE, also if it is the first or the last. */
    private static void unknownOrNone(String name, Call call) {
        int[] outside = {-1, 32, -32, 256, Integer.MIN_VALUE, Integer.MAX_VALUE};
        for (int slot : outside) {
            is(name + "(" + slot + ") of a full memory", call.on(filled(32, 5), slot), UNKNOWN);
            is(name + "(" + slot + ") of an empty memory", call.on(new TernaryMatcher(), slot), UNKNOWN);
        }
        for (int slot = 0; slot < 32; slot++) {
            int rule = slot;
            is(name + "(" + slot + ") of an empty memory", call.on(new TernaryMatcher(), slot), NONE);
            is(name + "(" + slot + "), its entry removed", call.on(after(filled(32, 5), memory -> memory.remove(rule)), slot), NONE);
        }
    }

    /** The rules 0 and 31 are taken; UNKNOWN for numbers beside them, and for rules that were removed. */
    private static void rulesThatThereAre(String name, Call call) {
        ends(name, 0, 31, UNKNOWN, () -> filled(32, 5), call);
        TernaryMatcher memory = filled(3, 5);
        memory.remove(1);
        is(name + ": removed", call.on(memory, 1), UNKNOWN);
        is(name + ": not added yet", call.on(memory, 3), UNKNOWN);
        is(name + ": an empty memory", call.on(new TernaryMatcher(), 0), UNKNOWN);
        is(name + ": -1 is no rule, though slots are free", call.on(memory, -1), UNKNOWN);
        memory.undo();
        Due.holds(name + ": back again", call.on(memory, 1) >= 0);
        memory.undo();
        is(name + ": undone", call.on(memory, 2), UNKNOWN);
    }

    // ---- entries

    @Says(in = RULE_IN, words = {"Returns the rule of the entry in a slot.", "Returns the number of the rule;"})
    static void ruleInTells() {
        tells("ruleIn", TernaryMatcher::ruleIn, NONE, 3, 2, 1, 0, 0, 0, 0);
    }

    @Says(in = RULE_IN, words = SLOTS_0_TO_31)
    static void ruleInSlots() {
        ends("slot", 0, 31, UNKNOWN, () -> filled(32, 5), TernaryMatcher::ruleIn);
        is("the first slot", filled(32, 5).ruleIn(0), 0);
        is("the last slot", filled(32, 5).ruleIn(31), 31);
    }

    @Says(in = RULE_IN, words = "UNKNOWN; NONE if the slot is free.")
    static void ruleInNoEntry() {
        unknownOrNone("ruleIn", TernaryMatcher::ruleIn);
    }

    @Says(in = MASK_IN, words = {"Returns the mask of the entry in a slot.", "Returns the mask;"})
    static void maskInTells() {
        tells("maskIn", TernaryMatcher::maskIn, NONE, 0, 0b10011001, 255, 255, 254, 254, 255);
    }

    @Says(in = MASK_IN, words = SLOTS_0_TO_31)
    static void maskInSlots() {
        ends("slot", 0, 31, UNKNOWN, () -> filled(32, 5), TernaryMatcher::maskIn);
        is("the first slot", filled(32, 5).maskIn(0), 255);
        is("the last slot", filled(32, 5).maskIn(31), 255);
    }

    @Says(in = MASK_IN, words = "UNKNOWN; NONE if the slot is free.")
    static void maskInNoEntry() {
        unknownOrNone("maskIn", TernaryMatcher::maskIn);
    }

    @Says(in = VALUE_IN, words = {"Returns the value of the entry in a slot.", "Returns the value;"})
    static void valueInTells() {
        tells("valueIn", TernaryMatcher::valueIn, NONE, 0, 0b10011001, 255, 1, 2, 4, 6);
    }

    @Says(in = VALUE_IN, words = SLOTS_0_TO_31)
    static void valueInSlots() {
        ends("slot", 0, 31, UNKNOWN, () -> filled(32, 5), TernaryMatcher::valueIn);
        is("the first slot", filled(32, 5).valueIn(0), 0);
        is("the last slot", filled(32, 5).valueIn(31), 31);
    }

    @Says(in = VALUE_IN, words = "UNKNOWN; NONE if the slot is free.")
    static void valueInNoEntry() {
        unknownOrNone("valueIn", TernaryMatcher::valueIn);
    }

    @Says(in = SORT_IN, words = {"Tells what sort of entry is in a slot.",
        "Returns 0 for an exact entry, 1 for a prefix, 2 for a general entry;"})
    static void sortInTells() {
        tells("sortIn", TernaryMatcher::sortIn, NONE, 1, 2, 0, 0, 1, 1, 0);
    }

    @Says(in = SORT_IN, words = SLOTS_0_TO_31)
    static void sortInSlots() {
        ends("slot", 0, 31, UNKNOWN, () -> filled(32, 5), TernaryMatcher::sortIn);
        is("the first slot", filled(32, 5).sortIn(0), 0);
        is("the last slot", filled(32, 5).sortIn(31), 0);
    }

    @Says(in = SORT_IN, words = "UNKNOWN; NONE if the slot is free.")
    static void sortInNoEntry() {
        unknownOrNone("sortIn", TernaryMatcher::sortIn);
    }

    // ---- rules

    @Says(in = SLOT_OF, words = {"Returns the slot of a part of a rule.", "Returns the slot;"})
    static void slotOfTells() {
        TernaryMatcher memory = mixed();
        int[] rules = {3, 2, 1, 0, 0, 0, 0};
        int[] parts = {0, 0, 0, 0, 1, 2, 3};
        for (int i = 0; i < 7; i++) {
            is("slotOf(" + rules[i] + ", " + parts[i] + ")", memory.slotOf(rules[i], parts[i]), 25 + i);
        }
        memory.compact();
        for (int i = 0; i < 7; i++) {
            is("compacted: slotOf(" + rules[i] + ", " + parts[i] + ")", memory.slotOf(rules[i], parts[i]), i);
        }
        is("the last slot", filled(32, 5).slotOf(31, 0), 31);
    }

    @Says(in = SLOT_OF, words = A_RULE_THAT_THERE_IS)
    static void slotOfRules() {
        rulesThatThereAre("slotOf the part 0 of the rule", (memory, rule) -> memory.slotOf(rule, 0));
    }

    @Says(in = SLOT_OF, words = "`part`: 0 to the number of its parts minus 1")
    static void slotOfParts() {
        int[][] ranges = {{9, 9, 1}, {1, 2, 2}, {1, 6, 4}, {1, 254, 14}};
        for (int[] range : ranges) {
            ends("part", 0, range[2] - 1, UNKNOWN, () -> after(new TernaryMatcher(), memory -> memory.addRange(range[0], range[1], 5, 0)),
                    (memory, part) -> memory.slotOf(0, part));
        }
        ends("part of a rule of one entry", 0, 0, UNKNOWN, () -> filled(5, 5), (memory, part) -> memory.slotOf(2, part));
    }

    @Says(in = SLOT_OF, words = "UNKNOWN (rule or part).")
    static void slotOfNoRuleOrPart() {
        TernaryMatcher memory = mixed();
        is("no part", memory.slotOf(0, 4), UNKNOWN);
        is("no part", memory.slotOf(1, 1), UNKNOWN);
        is("no rule", memory.slotOf(4, 0), UNKNOWN);
        is("no rule and no part", memory.slotOf(4, 4), UNKNOWN);
        is("neither of free slots", memory.slotOf(-1, 0), UNKNOWN);
        memory.remove(0);
        is("removed", memory.slotOf(0, 0), UNKNOWN);
        is("removed", memory.slotOf(0, 3), UNKNOWN);
    }

    @Says(in = PARTS, words = {"Returns how many parts a rule has.", "Returns the number of parts; UNKNOWN."})
    static void partsTells() {
        is("a range", mixed().parts(0), 4);
        is("a rule", mixed().parts(1), 1);
        is("no rule", mixed().parts(4), UNKNOWN);
        TernaryMatcher memory = new TernaryMatcher();
        memory.addRange(1, 254, 5, 0);
        memory.addRange(0, 255, 5, 0);
        is("the most parts", memory.parts(0), 14);
        is("one part for all keys", memory.parts(1), 1);
        memory.spread();
        is("spread", memory.parts(0), 14);
    }

    @Says(in = PARTS, words = A_RULE_THAT_THERE_IS)
    static void partsRules() {
        rulesThatThereAre("parts of the rule", TernaryMatcher::parts);
    }

    @Says(in = RANK, words = {"Returns the rank of a rule.", "Returns the rank; UNKNOWN."})
    static void rankTells() {
        int[] ranks = {60, 50, 40, 30, UNKNOWN};
        for (int rule = 0; rule < 5; rule++) {
            is("rank(" + rule + ")", mixed().rank(rule), ranks[rule]);
        }
        for (int rank = 0; rank < 100; rank++) {
            TernaryMatcher memory = new TernaryMatcher();
            memory.addRule(0, 0, rank, 0);
            is("rank", memory.rank(0), rank);
        }
    }

    @Says(in = RANK, words = A_RULE_THAT_THERE_IS)
    static void rankRules() {
        rulesThatThereAre("rank of the rule", TernaryMatcher::rank);
    }

    @Says(in = ACTION, words = {"Returns the action of a rule.", "Returns the action; UNKNOWN."})
    static void actionTells() {
        int[] actions = {1, 2, 3, 4, UNKNOWN};
        for (int rule = 0; rule < 5; rule++) {
            is("action(" + rule + ")", mixed().action(rule), actions[rule]);
        }
        for (int action = 0; action < 10; action++) {
            is("action", filled(10, 5).action(action), action);
        }
    }

    @Says(in = ACTION, words = A_RULE_THAT_THERE_IS)
    static void actionRules() {
        rulesThatThereAre("action of the rule", TernaryMatcher::action);
    }

    @Says(in = HITS, words = {"Returns how many searches found a rule so far.", "Returns the number of hits; UNKNOWN."})
    static void hitsTells() {
        TernaryMatcher memory = new TernaryMatcher();
        memory.addRange(1, 6, 60, 1);
        memory.addRule(0, 248, 70, 2);
        is("none at first", memory.hits(0), 0);
        for (int key = 0; key < 8; key++) {
            memory.search(key);
        }
        is("hits of all parts", memory.hits(0), 6);
        is("those that the range leaves", memory.hits(1), 2);
        is("in vain", memory.search(8), NONE);
        is("find is no search", memory.find(1), 0);
        is("power is no search", memory.power(1), 5);
        is("still", memory.hits(0), 6);
        is("no rule", memory.hits(2), UNKNOWN);
        memory.spread();
        is("spread", memory.hits(0), 6);
        memory.addRule(9, 255, 0, 0);
        is("moved", memory.hits(0), 6);
        is("a rule added later", memory.hits(2), 0);
        memory.remove(0);
        memory.search(1);
        is("the other one is found now", memory.hits(1), 3);
        is("removed", memory.hits(0), UNKNOWN);
        is("a rule in its place has none", memory.hits(memory.addRange(1, 6, 60, 1)), 0);
    }

    @Says(in = HITS, words = A_RULE_THAT_THERE_IS)
    static void hitsRules() {
        rulesThatThereAre("hits of the rule", TernaryMatcher::hits);
    }

    // ---- searches

    @Says(in = FIND, words = "Tells which rule a key finds.")
    static void findTells() {
        TernaryMatcher memory = new TernaryMatcher();
        memory.addRule(0b10100000, 0b11100000, 9, 0);
        memory.addRule(0b00000101, 0b00000111, 9, 0);
        memory.addRule(0b10100101, 0b11111111, 8, 0);
        is("the least slot", memory.find(0b10100101), 2);
        is("the next one", memory.find(0b10110101), 0);
        is("the last one", memory.find(0b11111101), 1);
        is("searches", memory.total(SEARCHES), 0);
        is("hits", memory.hits(2), 0);
        is("states", memory.total(STATES), 3);
    }

    @Says(in = FIND, words = "`key`: 0 to 255")
    static void findKeys() {
        ends("key", 0, 255, OUT_OF_RANGE, AskSentences::mixed, TernaryMatcher::find);
        ends("key of an empty memory", 0, 255, OUT_OF_RANGE, TernaryMatcher::new, TernaryMatcher::find);
        is("the key 0", mixed().find(0), 3);
        is("the key 255", mixed().find(255), 3);
    }

    @Says(in = FIND, words = "Returns the number of the rule; OUT_OF_RANGE; NONE if it finds none.")
    static void findAnswers() {
        TernaryMatcher memory = filled(32, 5);
        is("the first rule", memory.find(0), 0);
        is("the last rule", memory.find(31), 31);
        is("none", memory.find(32), NONE);
        is("none", memory.find(255), NONE);
        is("no key", memory.find(256), OUT_OF_RANGE);
        is("none in an empty memory", new TernaryMatcher().find(0), NONE);
    }

    @Says(in = POWER, words = {"Tells the power of the search of a key.", "Returns the power; OUT_OF_RANGE."})
    static void powerTells() {
        TernaryMatcher memory = filled(10, 5);
        is("the bank 0", memory.power(7), 8);
        is("the bank 1", memory.power(8), 2);
        is("the bank 1 again", memory.power(9), 2);
        is("no bank", memory.power(10), 0);
        is("no bank", memory.power(255), 0);
        is("no key", memory.power(256), OUT_OF_RANGE);
        is("an empty memory", new TernaryMatcher().power(0), 0);
        is("nothing is counted", memory.total(POWERS) + memory.total(SEARCHES), 0);
        is("states", memory.total(STATES), 4);
    }

    @Says(in = POWER, words = "`key`: 0 to 255")
    static void powerKeys() {
        ends("key", 0, 255, OUT_OF_RANGE, AskSentences::mixed, TernaryMatcher::power);
        ends("key of an empty memory", 0, 255, OUT_OF_RANGE, TernaryMatcher::new, TernaryMatcher::power);
        is("the key 0", mixed().power(0), 7);
        is("the key 255", mixed().power(255), 7);
    }

    @Says(in = FILTER_MASK, words = {"Returns the mask of the filter of a bank.", "Returns the mask; UNKNOWN."})
    static void filterMaskTells() {
        int[] masks = {0b11111000, 0b11111000, 0b11111100, 255};
        TernaryMatcher memory = filled(32, 5);
        for (int rule = 20; rule < 31; rule++) {
            memory.remove(rule);
        }
        for (int bank = 0; bank < 4; bank++) {
            is("filterMask(" + bank + ")", memory.filterMask(bank), masks[bank]);
            is("an empty memory: filterMask(" + bank + ")", new TernaryMatcher().filterMask(bank), 0);
        }
    }

    @Says(in = FILTER_MASK, words = "`bank`: 0 to 3")
    static void filterMaskBanks() {
        ends("bank", 0, 3, UNKNOWN, () -> filled(32, 5), TernaryMatcher::filterMask);
        ends("bank without entries", 0, 3, UNKNOWN, TernaryMatcher::new, TernaryMatcher::filterMask);
    }

    @Says(in = FILTER_VALUE, words = {"Returns the value of the filter of a bank.", "Returns the value; UNKNOWN."})
    static void filterValueTells() {
        int[] values = {0, 8, 16, 31};
        TernaryMatcher memory = filled(32, 5);
        for (int rule = 20; rule < 31; rule++) {
            memory.remove(rule);
        }
        for (int bank = 0; bank < 4; bank++) {
            is("filterValue(" + bank + ")", memory.filterValue(bank), values[bank]);
            is("an empty memory: filterValue(" + bank + ")", new TernaryMatcher().filterValue(bank), 0);
        }
    }

    @Says(in = FILTER_VALUE, words = "`bank`: 0 to 3")
    static void filterValueBanks() {
        ends("bank", 0, 3, UNKNOWN, () -> filled(32, 5), TernaryMatcher::filterValue);
        ends("bank without entries", 0, 3, UNKNOWN, TernaryMatcher::new, TernaryMatcher::filterValue);
    }

    // ---- hidden entries

    /** Adds single entries, one to a rank, so that they stand in this order from the slot 0 on. */
    private static TernaryMatcher inOrder(String... entries) {
        TernaryMatcher memory = new TernaryMatcher();
        for (int i = 0; i < entries.length; i++) {
            memory.clearText();
            type(memory, entries[i] + "," + i + ",0");
            memory.addText();
        }
        return memory;
    }

    private static void hides(int want, String... entries) {
        is("who hides the last of " + String.join(" ", entries), inOrder(entries).hiddenBy(entries.length - 1), want);
    }

    @Says(in = HIDDEN_BY, words = "Tells which entry hides the one in a slot: the entry in the least slot that is less than this one,")
    static void theLeastSlotHides() {
        hides(1, "1111****", "0000****", "000*****", "00000000");
        hides(0, "00000000", "00000000", "00000000");
        hides(2, "1*******", "*1******", "********", "********", "00000000");
        TernaryMatcher memory = inOrder("00000000", "********", "00000000");
        is("the entry itself does not count", memory.hiddenBy(0), NONE);
        is("a later one does not count", memory.hiddenBy(1), NONE);
        is("the first of two", memory.hiddenBy(2), 0);
        memory.remove(0);
        is("a free slot does not count", memory.hiddenBy(2), 1);
        is("the last slot", inLastSlots("00000000", "00000000").hiddenBy(31), 30);
        is("the last slot but one", inLastSlots("00000000", "00000000").hiddenBy(30), NONE);
    }

    private static TernaryMatcher inLastSlots(String first, String second) {
        TernaryMatcher memory = typed(first + ",5,0;" + second + ",6,0");
        memory.setPlacing(2);
        memory.addText();
        return memory;
    }

    @Says(in = HIDDEN_BY, words = "and that matches every key that this one matches.")
    static void everyKeyIsMatched() {
        hides(0, "********", "********");
        hides(0, "1*******", "1***0***");
        hides(0, "1*1*****", "1*1****0");
        hides(NONE, "1***0***", "1*******");
        hides(NONE, "1*1****1", "1*1****0");
        hides(NONE, "11111111", "11111110");
        hides(NONE, "0*******", "********");
        hides(0, "0***0***", "01110111");
        hides(NONE, "0***0***", "01111111");
        hides(NONE, "*******1", "1*******");
    }

    @Says(in = HIDDEN_BY, words = SLOTS_0_TO_31)
    static void hiddenBySlots() {
        ends("slot", 0, 31, UNKNOWN, () -> filled(32, 5), TernaryMatcher::hiddenBy);
        ends("slot of an empty memory", 0, 31, UNKNOWN, TernaryMatcher::new, TernaryMatcher::hiddenBy);
    }

    @Says(in = HIDDEN_BY, words = "Returns the slot of the entry that hides it; UNKNOWN; NONE if the slot is free, or no single entry hides it.")
    static void hiddenByAnswers() {
        hides(NONE, "0*******", "1*******", "********");
        hides(NONE, "00000000", "00000001", "0000000*");
        hides(2, "0*******", "11******", "********", "1*******");
        TernaryMatcher memory = inOrder("0*******", "1*******", "********");
        is("though no key finds it", memory.keysFor(2), 0);
        is("a free slot behind an open entry", memory.hiddenBy(3), NONE);
        is("a free slot at the end", memory.hiddenBy(31), NONE);
        memory.remove(1);
        is("a slot that became free", memory.hiddenBy(1), NONE);
        unknownOrNone("hiddenBy", TernaryMatcher::hiddenBy);
    }

    @Says(in = KEYS_FOR, words = {"Tells how many keys find the entry in a slot.", "Returns the number of keys,"})
    static void keysForTells() {
        TernaryMatcher memory = inOrder("*******1", "1*******", "11******", "********", "00000000");
        int[] want = {128, 64, 0, 64, 0};
        for (int slot = 0; slot < 5; slot++) {
            is("keysFor(" + slot + ")", memory.keysFor(slot), want[slot]);
        }
        is("one entry for all keys", inOrder("********").keysFor(0), 256);
        is("one key", inOrder("11111111").keysFor(0), 1);
        is("the key 0", inOrder("00000000").keysFor(0), 1);
        memory.remove(0);
        is("what the removed one found", memory.keysFor(1), 128);
        is("and the rest", memory.keysFor(3), 128);
    }

    @Says(in = KEYS_FOR, words = SLOTS_0_TO_31)
    static void keysForSlots() {
        ends("slot", 0, 31, UNKNOWN, () -> filled(32, 5), TernaryMatcher::keysFor);
        ends("slot of an empty memory", 0, 31, UNKNOWN, TernaryMatcher::new, TernaryMatcher::keysFor);
        is("the first slot", filled(32, 5).keysFor(0), 1);
        is("the last slot", filled(32, 5).keysFor(31), 1);
    }

    @Says(in = KEYS_FOR, words = "0 if the slot is free; UNKNOWN.")
    static void keysForFreeSlots() {
        for (int slot = 0; slot < 32; slot++) {
            is("an empty memory: keysFor(" + slot + ")", new TernaryMatcher().keysFor(slot), 0);
        }
        TernaryMatcher memory = filled(2, 5);
        memory.remove(0);
        is("a slot that became free", memory.keysFor(0), 0);
        is("the other one", memory.keysFor(1), 1);
        is("no slot, though keys find none", memory.keysFor(-1), UNKNOWN);
        is("no slot", memory.keysFor(32), UNKNOWN);
    }

    // ---- what would be

    @Says(in = WOULD_MOVE, words = {"Tells how many entries inserting an entry of a rank would move now.", "Returns the number of entries;"})
    static void wouldMoveTells() {
        TernaryMatcher memory = new TernaryMatcher();
        for (int rank = 10; rank < 41; rank++) {
            memory.addRule(rank, 255, rank, 0);
        }
        is("all of 31", memory.wouldMove(9), 31);
        for (int rank = 10; rank < 41; rank++) {
            is("wouldMove(" + rank + ")", memory.wouldMove(rank), 40 - rank);
        }
        memory.remove(10);
        is("into the gap from below", memory.wouldMove(19), 0);
        is("into the gap from above", memory.wouldMove(20), 0);
        is("down by one", memory.wouldMove(21), 1);
        is("up by one", memory.wouldMove(18), 1);
        is("as many each way", memory.wouldMove(30), 10);
        is("up to the slot 31 is shorter", memory.wouldMove(31), 9);
        is("nothing is moved", memory.total(MOVED), 0);
        is("nothing is added", memory.total(ENTRIES), 30);
    }

    @Says(in = WOULD_MOVE, words = "`rank`: 0 to 99")
    static void wouldMoveRanks() {
        ends("rank", 0, 99, OUT_OF_RANGE, TernaryMatcher::new, TernaryMatcher::wouldMove);
        ends("rank, no slot free", 0, 99, OUT_OF_RANGE, () -> filled(32, 5), TernaryMatcher::wouldMove);
        is("the empty memory", new TernaryMatcher().wouldMove(0), 0);
        is("the empty memory", new TernaryMatcher().wouldMove(99), 0);
    }

    @Says(in = WOULD_MOVE, words = "OUT_OF_RANGE; FULL if no slot is free.")
    static void wouldMoveFull() {
        TernaryMatcher memory = filled(31, 5);
        is("one slot is free", memory.wouldMove(5), 0);
        is("one slot is free", memory.wouldMove(4), 31);
        memory.addRule(255, 255, 5, 0);
        is("none is free", memory.wouldMove(5), FULL);
        is("none is free", memory.wouldMove(4), FULL);
        is("none is free", memory.wouldMove(99), FULL);
        is("out of range comes first", memory.wouldMove(100), OUT_OF_RANGE);
        memory.remove(0);
        is("the slot 0 is free", memory.wouldMove(4), 0);
        is("the slot 0 is free", memory.wouldMove(5), 31);
    }

    @Says(in = ENTRIES_FOR, words = {"Tells how many entries a range needs.", "Returns the number of entries; OUT_OF_RANGE."})
    static void entriesForTells() {
        int[][] ranges = {{0, 0, 1}, {0, 1, 1}, {1, 2, 2}, {0, 2, 2}, {0, 255, 1}, {0, 254, 8}, {1, 255, 8},
            {1, 254, 14}, {128, 255, 1}, {127, 128, 2}, {64, 191, 2}, {5, 20, 5}, {255, 255, 1}, {3, 12, 4}, {254, 255, 1}};
        for (int[] range : ranges) {
            String call = "entriesFor(" + range[0] + ", " + range[1] + ")";
            is(call, new TernaryMatcher().entriesFor(range[0], range[1]), range[2]);
            is(call + " of a full memory", filled(32, 5).entriesFor(range[0], range[1]), range[2]);
        }
        is("the range needs nothing yet", after(filled(1, 5), memory -> memory.entriesFor(1, 254)).total(ENTRIES), 1);
    }

    @Says(in = ENTRIES_FOR, words = "`low`: 0 to 255")
    static void entriesForLow() {
        ends("low", 0, 255, OUT_OF_RANGE, TernaryMatcher::new, (memory, low) -> memory.entriesFor(low, 255));
        ends("low and high", 0, 255, OUT_OF_RANGE, TernaryMatcher::new, (memory, key) -> memory.entriesFor(key, key));
    }

    @Says(in = ENTRIES_FOR, words = "`high`: low to 255")
    static void entriesForHigh() {
        int[] lows = {0, 1, 100, 254, 255};
        for (int low : lows) {
            ends("high from " + low + " on:", low, 255, OUT_OF_RANGE, TernaryMatcher::new, (memory, high) -> memory.entriesFor(low, high));
        }
    }

    // ---- total

    @Says(in = TOTAL, words = "Returns a number of the whole memory.")
    static void totalsOfARun() {
        TernaryMatcher memory = new TernaryMatcher();
        memory.addRange(1, 6, 5, 1);
        memory.addRule(0, 0b11111000, 4, 2);
        memory.addRule(0, 255, 6, 3);
        memory.addRule(0, 255, 7, 3);
        memory.remove(3);
        memory.setPlacing(1);
        memory.search(3);
        memory.type('x');
        int[] want = {6, 3, 4, 1, 4, 1, 6, 5, 248, 4, 1};
        for (int what = ENTRIES; what <= TEXT_LENGTH; what++) {
            is("total(" + what + ")", memory.total(what), want[what]);
        }
    }

    @Says(in = TOTAL, words = "`what`: 0 for the entries,")
    static void totalOfEntries() {
        is("none", new TernaryMatcher().total(0), 0);
        is("all slots", filled(32, 5).total(0), 32);
        is("parts are counted each", mixed().total(0), 7);
        is("removed ones are not", after(mixed(), memory -> memory.remove(0)).total(0), 3);
    }

    @Says(in = TOTAL, words = "1 for the rules,")
    static void totalOfRules() {
        is("none", new TernaryMatcher().total(1), 0);
        is("all slots", filled(32, 5).total(1), 32);
        is("a range is one", mixed().total(1), 4);
        is("removed ones are not counted", after(mixed(), memory -> memory.remove(0)).total(1), 3);
    }

    @Says(in = TOTAL, words = "2 for rules added so far,")
    static void totalOfRulesAdded() {
        is("none", new TernaryMatcher().total(2), 0);
        is("a range is one", mixed().total(2), 4);
        is("removed ones are counted", after(mixed(), memory -> memory.remove(3)).total(2), 4);
        is("refused ones are not", after(filled(32, 5), memory -> memory.addRule(0, 0, 0, 0)).total(2), 32);
        TernaryMatcher memory = typed("00000000,1,2;00000000,1,2");
        memory.addText();
        is("those of a text are", memory.total(2), 2);
    }

    @Says(in = TOTAL, words = "3 for the placing rule,")
    static void totalOfPlacing() {
        TernaryMatcher memory = new TernaryMatcher();
        is("at first", memory.total(3), 0);
        memory.setPlacing(1);
        is("1", memory.total(3), 1);
        memory.setPlacing(2);
        is("2", memory.total(3), 2);
        memory.setPlacing(0);
        is("0", memory.total(3), 0);
    }

    @Says(in = TOTAL, words = "4 for entries moved so far (to make room, by compact() and spread()),")
    static void totalOfMoved() {
        TernaryMatcher memory = filled(3, 5);
        is("none", memory.total(4), 0);
        memory.addRule(9, 255, 4, 0);
        is("three up", memory.total(4), 3);
        memory.addRange(1, 2, 3, 0);
        is("four up, twice", memory.total(4), 11);
        memory.remove(3);
        is("remove moves none", memory.total(4), 11);
        memory.compact();
        is("three by compact", memory.total(4), 14);
        memory.spread();
        is("four by spread", memory.total(4), 18);
        memory.compact();
        is("four by compact", memory.total(4), 22);
        memory.setPlacing(2);
        memory.addRule(10, 255, 9, 0);
        memory.addRule(11, 255, 9, 0);
        is("one down", memory.total(4), 23);
        type(memory, "00000000,9,0;00000000,9,0");
        memory.addText();
        is("two and three down for a text", memory.total(4), 28);
        memory.undo();
        is("undo is no moving", memory.total(4), 23);
    }

    @Says(in = TOTAL, words = "5 for searches counted so far,")
    static void totalOfSearches() {
        TernaryMatcher memory = filled(2, 5);
        is("none", memory.total(5), 0);
        memory.search(0);
        memory.search(0);
        memory.search(1);
        is("three", memory.total(5), 3);
        memory.search(2);
        memory.search(256);
        memory.find(0);
        is("only those that found a rule", memory.total(5), 3);
    }

    @Says(in = TOTAL, words = "6 for their powers together,")
    static void totalOfPowers() {
        TernaryMatcher memory = filled(10, 5);
        is("none", memory.total(6), 0);
        memory.search(0);
        is("8", memory.total(6), 8);
        memory.search(9);
        is("and 2", memory.total(6), 10);
        memory.search(10);
        memory.power(0);
        is("in vain", memory.total(6), 10);
        memory.remove(1);
        memory.search(0);
        is("and 7", memory.total(6), 17);
    }

    @Says(in = TOTAL, words = "7 for entries that no key finds,")
    static void totalOfEntriesNeverFound() {
        is("none", new TernaryMatcher().total(7), 0);
        is("each is found", filled(32, 5).total(7), 0);
        is("hidden by one", inOrder("********", "00000000").total(7), 1);
        is("hidden by several together", inOrder("0*******", "1*******", "*0******").total(7), 1);
        is("nearly hidden", inOrder("0*******", "10******", "110*****", "********").total(7), 0);
        is("the same five times", inOrder("1*******", "1*******", "1*******", "1*******", "1*******").total(7), 4);
        TernaryMatcher memory = new TernaryMatcher();
        for (int i = 0; i < 32; i++) {
            memory.addRule(0, 0, 5, 0);
        }
        is("all but the first", memory.total(7), 31);
        memory.remove(0);
        is("all but the next", memory.total(7), 30);
    }

    @Says(in = TOTAL, words = "8 for keys that find no rule,")
    static void totalOfLostKeys() {
        is("all", new TernaryMatcher().total(8), 256);
        is("those of no entry", filled(32, 5).total(8), 224);
        is("none", inOrder("********").total(8), 0);
        is("none", inOrder("0*******", "1*******").total(8), 0);
        is("half", inOrder("*****1**").total(8), 128);
        is("one", inOrder("0*******", "10******", "110*****", "1110****", "11110***", "111110**", "1111110*",
                "11111110").total(8), 1);
    }

    @Says(in = TOTAL, words = "9 for the states in the history,")
    static void totalOfStates() {
        for (int changes = 0; changes < 8; changes++) {
            is(changes + " changes", filled(changes, 5).total(9), Math.min(changes, 4));
        }
        is("undo", after(filled(8, 5), TernaryMatcher::undo).total(9), 3);
    }

    @Says(in = TOTAL, words = "10 for the length of the text")
    static void totalOfTheText() {
        is("none", new TernaryMatcher().total(10), 0);
        is("three", typed("01*").total(10), 3);
        is("cleared", after(typed("01*"), TernaryMatcher::clearText).total(10), 0);
        TernaryMatcher memory = new TernaryMatcher();
        for (int i = 0; i < 62; i++) {
            memory.type('0');
        }
        is("60", memory.total(10), 60);
    }

    @Says(in = TOTAL, words = "Returns the number; OUT_OF_RANGE.")
    static void totalOfNothing() {
        ends("what", 0, 10, OUT_OF_RANGE, TernaryMatcher::new, TernaryMatcher::total);
        ends("what", 0, 10, OUT_OF_RANGE, Sentences::worked, TernaryMatcher::total);
    }
}
