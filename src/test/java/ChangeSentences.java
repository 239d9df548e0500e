/** The promises 1 to 8: a new object, and the changes. */
final class ChangeSentences extends Sentences {
    private static final String NEW = "Promise 1";
    private static final String ADD_RULE = "Promise 2";
    private static final String ADD_RANGE = "Promise 3";
    private static final String REMOVE = "Promise 4";
    private static final String SET_PLACING = "Promise 5";
    private static final String COMPACT = "Promise 6";
    private static final String SPREAD = "Promise 7";
    private static final String SEARCH = "Promise 8";
    private static final int[] NO_RULES = {-1, -2, -4, -100, 32, Integer.MIN_VALUE, Integer.MAX_VALUE};

    /** One change more is recorded, and undo() takes it back. */
    private static void isAChange(TernaryMatcher memory, Call change) {
        int states = memory.total(STATES);
        Due.holds("there is room for one more state", states < 4);
        int entries = memory.total(ENTRIES);
        Due.holds("the change is made", change.on(memory, 0) >= 0);
        is("states", memory.total(STATES), states + 1);
        is("undo", memory.undo(), states);
        is("entries after undo", memory.total(ENTRIES), entries);
    }

    @Says(in = NEW, words = "Creates a memory without entries.")
    static void aNewObject() {
        TernaryMatcher memory = new TernaryMatcher();
        for (int what = ENTRIES; what <= TEXT_LENGTH; what++) {
            is("total(" + what + ")", memory.total(what), what == LOST_KEYS ? 256 : 0);
        }
        for (int slot = 0; slot < 32; slot++) {
            is("ruleIn(" + slot + ")", memory.ruleIn(slot), NONE);
        }
        is("no rule 0", memory.parts(0), UNKNOWN);
        is("no history", memory.undo(), NONE);
        is("no snapshot", memory.restore(), NONE);
        TernaryMatcher other = filled(3, 5);
        is("objects share nothing", memory.total(ENTRIES), 0);
        is("objects share nothing", other.total(ENTRIES), 3);
    }

    // ---- addRule

    @Says(in = ADD_RULE, words = "Adds a rule with one entry.")
    static void addRuleAddsOneEntry() {
        TernaryMatcher memory = new TernaryMatcher();
        is("rule", memory.addRule(0b10100000, 0b11110000, 42, 7), 0);
        is("entries", memory.total(ENTRIES), 1);
        is("parts", memory.parts(0), 1);
        is("slot", memory.slotOf(0, 0), 0);
        is("mask", memory.maskIn(0), 0b11110000);
        is("value", memory.valueIn(0), 0b10100000);
        is("rank", memory.rank(0), 42);
        is("action", memory.action(0), 7);
        is("hits", memory.hits(0), 0);
    }

    @Says(in = ADD_RULE, words = "This is a change.")
    static void addRuleIsAChange() {
        isAChange(new TernaryMatcher(), (memory, any) -> memory.addRule(0, 0, 0, 0));
        isAChange(filled(3, 5), (memory, any) -> memory.addRule(0, 0, 0, 0));
    }

    @Says(in = ADD_RULE, words = "`value`: 0 to 255; bits that are 0 in mask do not matter")
    static void addRuleValues() {
        ends("value", 0, 255, OUT_OF_RANGE, TernaryMatcher::new, (memory, value) -> memory.addRule(value, 255, 5, 0));
        ends("value under the mask 0", 0, 255, OUT_OF_RANGE, TernaryMatcher::new, (memory, value) -> memory.addRule(value, 0, 5, 0));
        TernaryMatcher memory = new TernaryMatcher();
        memory.addRule(0b11001111, 0b11110000, 5, 0);
        is("value", memory.valueIn(0), 0b11000000);
        is("any low bits", memory.find(0b11000101), 0);
    }

    @Says(in = ADD_RULE, words = "`mask`: 0 to 255")
    static void addRuleMasks() {
        ends("mask", 0, 255, OUT_OF_RANGE, TernaryMatcher::new, (memory, mask) -> memory.addRule(0, mask, 5, 0));
    }

    @Says(in = ADD_RULE, words = "`rank`: 0 to 99")
    static void addRuleRanks() {
        ends("rank", 0, 99, OUT_OF_RANGE, TernaryMatcher::new, (memory, rank) -> memory.addRule(0, 0, rank, 0));
    }

    @Says(in = ADD_RULE, words = "`action`: 0 to 9")
    static void addRuleActions() {
        ends("action", 0, 9, OUT_OF_RANGE, TernaryMatcher::new, (memory, action) -> memory.addRule(0, 0, 0, action));
    }

    @Says(in = ADD_RULE, words = "Returns the number of the rule; OUT_OF_RANGE; FULL if no slot is free.")
    static void addRuleAnswers() {
        TernaryMatcher memory = filled(31, 5);
        is("the last free slot", memory.addRule(255, 255, 5, 0), 31);
        is("none is free", memory.addRule(255, 255, 5, 0), FULL);
        is("none is free, ahead of all", memory.addRule(255, 255, 0, 0), FULL);
        is("out of range before FULL: value", memory.addRule(256, 255, 5, 0), OUT_OF_RANGE);
        is("out of range before FULL: mask", memory.addRule(255, -1, 5, 0), OUT_OF_RANGE);
        is("out of range before FULL: rank", memory.addRule(255, 255, 100, 0), OUT_OF_RANGE);
        is("out of range before FULL: action", memory.addRule(255, 255, 5, 10), OUT_OF_RANGE);
        memory.remove(17);
        is("one is free again", memory.addRule(255, 255, 5, 0), 32);
    }

    // ---- addRange

    @Says(in = ADD_RANGE, words = "Adds a rule for a range.")
    static void addRangeAddsARule() {
        TernaryMatcher memory = new TernaryMatcher();
        is("range", memory.addRange(5, 20, 42, 7), 0);
        is("one rule", memory.total(RULES), 1);
        is("five entries", memory.total(ENTRIES), 5);
        is("parts", memory.parts(0), 5);
        is("rank", memory.rank(0), 42);
        is("action", memory.action(0), 7);
        is("hits", memory.hits(0), 0);
        for (int key = 0; key < 256; key++) {
            is("find(" + key + ")", memory.find(key), key >= 5 && key <= 20 ? 0 : NONE);
        }
    }

    @Says(in = ADD_RANGE, words = "This is a change.")
    static void addRangeIsAChange() {
        isAChange(new TernaryMatcher(), (memory, any) -> memory.addRange(1, 254, 0, 0));
        isAChange(filled(3, 5), (memory, any) -> memory.addRange(1, 6, 0, 0));
    }

    @Says(in = ADD_RANGE, words = "`low`: 0 to 255")
    static void addRangeLow() {
        ends("low", 0, 255, OUT_OF_RANGE, TernaryMatcher::new, (memory, low) -> memory.addRange(low, 255, 5, 0));
        ends("low and high", 0, 255, OUT_OF_RANGE, TernaryMatcher::new, (memory, key) -> memory.addRange(key, key, 5, 0));
    }

    @Says(in = ADD_RANGE, words = "`high`: low to 255")
    static void addRangeHigh() {
        int[] lows = {0, 1, 100, 254, 255};
        for (int low : lows) {
            ends("high from " + low + " on:", low, 255, OUT_OF_RANGE, TernaryMatcher::new,
                    (memory, high) -> memory.addRange(low, high, 5, 0));
        }
    }

    @Says(in = ADD_RANGE, words = "`rank`: 0 to 99")
    static void addRangeRanks() {
        ends("rank", 0, 99, OUT_OF_RANGE, TernaryMatcher::new, (memory, rank) -> memory.addRange(1, 6, rank, 0));
    }

    @Says(in = ADD_RANGE, words = "`action`: 0 to 9")
    static void addRangeActions() {
        ends("action", 0, 9, OUT_OF_RANGE, TernaryMatcher::new, (memory, action) -> memory.addRange(1, 6, 0, action));
    }

    @Says(in = ADD_RANGE, words = "Returns the number of the rule; OUT_OF_RANGE; FULL if there are fewer free slots than entries are needed.")
    static void addRangeAnswers() {
        is("14 needed, 18 free", filled(14, 5).addRange(1, 254, 5, 0), 14);
        is("14 needed, 14 free", filled(18, 5).addRange(1, 254, 5, 0), 18);
        is("14 needed, 13 free", filled(19, 5).addRange(1, 254, 5, 0), FULL);
        is("13 needed, 13 free", filled(19, 5).addRange(1, 252, 5, 0), 19);
        is("1 needed, 1 free", filled(31, 5).addRange(0, 255, 5, 0), 31);
        is("2 needed, 1 free", filled(31, 5).addRange(1, 2, 5, 0), FULL);
        is("1 needed, none free", filled(32, 5).addRange(0, 255, 5, 0), FULL);
        is("out of range before FULL: low", filled(32, 5).addRange(-1, 255, 5, 0), OUT_OF_RANGE);
        is("out of range before FULL: high", filled(32, 5).addRange(1, 0, 5, 0), OUT_OF_RANGE);
        is("out of range before FULL: rank", filled(32, 5).addRange(1, 254, -1, 0), OUT_OF_RANGE);
        is("out of range before FULL: action", filled(32, 5).addRange(1, 254, 5, 10), OUT_OF_RANGE);
        TernaryMatcher memory = filled(19, 5);
        memory.addRange(1, 254, 5, 0);
        is("not a part of it is added", memory.total(ENTRIES), 19);
        is("no number is used", memory.addRule(0, 0, 5, 0), 19);
    }

    // ---- remove

    @Says(in = REMOVE, words = "Removes a rule with all its entries.")
    static void removeRemovesAllEntries() {
        TernaryMatcher memory = new TernaryMatcher();
        memory.addRule(200, 255, 5, 0);
        memory.addRange(1, 6, 5, 0);
        memory.addRule(201, 255, 5, 0);
        memory.remove(1);
        holds(memory, 0, 0, NONE, NONE, NONE, NONE, 2);
        is("entries", memory.total(ENTRIES), 2);
        is("rules", memory.total(RULES), 2);
        is("rank of what is gone", memory.rank(1), UNKNOWN);
        for (int key = 1; key <= 6; key++) {
            is("find(" + key + ")", memory.find(key), NONE);
        }
        is("find(201)", memory.find(201), 2);
    }

    @Says(in = REMOVE, words = "No other entry is moved.")
    static void removeMovesNothing() {
        TernaryMatcher memory = filled(32, 5);
        for (int rule = 0; rule < 32; rule += 2) {
            memory.remove(rule);
        }
        for (int slot = 0; slot < 32; slot++) {
            is("ruleIn(" + slot + ")", memory.ruleIn(slot), slot % 2 == 0 ? NONE : slot);
        }
        is("moved", memory.total(MOVED), 0);
    }

    @Says(in = REMOVE, words = "This is a change.")
    static void removeIsAChange() {
        isAChange(filled(3, 5), (memory, any) -> memory.remove(0));
        isAChange(after(new TernaryMatcher(), memory -> memory.addRange(1, 6, 5, 0)), (memory, any) -> memory.remove(0));
    }

    @Says(in = REMOVE, words = "`rule`: a rule that there is")
    static void removeTheFirstAndTheLast() {
        TernaryMatcher memory = filled(32, 5);
        for (int rule : NO_RULES) {
            is("remove(" + rule + ")", memory.remove(rule), UNKNOWN);
        }
        is("the first one", memory.remove(0), 1);
        is("the last one", memory.remove(31), 1);
        is("removed already", memory.remove(0), UNKNOWN);
        is("removed already", memory.remove(31), UNKNOWN);
        is("of an empty memory", new TernaryMatcher().remove(0), UNKNOWN);
        is("of an empty memory", new TernaryMatcher().remove(-1), UNKNOWN);
    }

    @Says(in = REMOVE, words = "Returns how many entries it had; UNKNOWN.")
    static void removeAnswers() {
        TernaryMatcher memory = new TernaryMatcher();
        memory.addRange(1, 254, 5, 0);
        memory.addRange(1, 6, 5, 0);
        memory.addRule(0, 0, 5, 0);
        is("one entry", memory.remove(2), 1);
        is("14 entries", memory.remove(0), 14);
        is("four entries", memory.remove(1), 4);
        is("a rule that there was", memory.remove(1), UNKNOWN);
        is("a rule that will be", memory.remove(3), UNKNOWN);
    }

    // ---- setPlacing

    @Says(in = SET_PLACING, words = "Sets the placing rule.")
    static void setPlacingSets() {
        TernaryMatcher memory = new TernaryMatcher();
        memory.setPlacing(2);
        is("told", memory.total(PLACING), 2);
        memory.addRule(0, 255, 5, 0);
        is("the slot b - 1", memory.slotOf(0, 0), 31);
        memory.setPlacing(1);
        memory.addRule(0, 255, 4, 0);
        is("the slot (a + b) / 2", memory.slotOf(1, 0), 15);
        memory.setPlacing(0);
        memory.addRule(0, 255, 3, 0);
        is("the slot a + 1", memory.slotOf(2, 0), 0);
        is("what is there stays", memory.slotOf(0, 0), 31);
    }

    @Says(in = SET_PLACING, words = "This is a change.")
    static void setPlacingIsAChange() {
        TernaryMatcher memory = new TernaryMatcher();
        isAChange(memory, (same, any) -> same.setPlacing(2));
        is("it is undone", memory.total(PLACING), 0);
    }

    @Says(in = SET_PLACING, words = "`placing`: 0 to 2")
    static void placings0To2() {
        ends("placing", 0, 2, OUT_OF_RANGE, TernaryMatcher::new, TernaryMatcher::setPlacing);
    }

    @Says(in = SET_PLACING, words = "Returns the previous one; OUT_OF_RANGE; NONE if it is that already.")
    static void setPlacingAnswers() {
        TernaryMatcher memory = new TernaryMatcher();
        is("0 at first", memory.setPlacing(0), NONE);
        is("0 to 1", memory.setPlacing(1), 0);
        is("1 again", memory.setPlacing(1), NONE);
        is("1 to 2", memory.setPlacing(2), 1);
        is("2 again", memory.setPlacing(2), NONE);
        is("3", memory.setPlacing(3), OUT_OF_RANGE);
        is("2 to 0", memory.setPlacing(0), 2);
        is("three of them are recorded", memory.total(STATES), 3);
    }

    // ---- compact

    @Says(in = COMPACT, words = "Moves all entries, in their order, to the slots from 0 on without gaps.")
    static void compactClosesGaps() {
        TernaryMatcher memory = with(1, 2, 2, 2, 7, 3, 30, 4, 31, 5);
        is("moved", memory.compact(), 5);
        holds(memory, 0, 1, 2, 7, 30, 31, NONE);
        for (int slot = 5; slot < 32; slot++) {
            is("ruleIn(" + slot + ")", memory.ruleIn(slot), NONE);
        }
        int[] rules = {1, 2, 7, 30, 31};
        int[] ranks = {2, 2, 3, 4, 5};
        for (int slot = 0; slot < 5; slot++) {
            is("the value moves along", memory.valueIn(slot), rules[slot]);
            is("the mask moves along", memory.maskIn(slot), 255);
            is("the rank moves along", memory.rank(rules[slot]), ranks[slot]);
            is("the part moves along", memory.slotOf(rules[slot], 0), slot);
        }
        memory = with(31, 5);
        is("from the last slot to the first", memory.compact(), 1);
        is("slot", memory.slotOf(31, 0), 0);
        memory = withGaps(16, 0);
        is("31 entries", memory.compact(), 31);
        is("the last one", memory.ruleIn(30), 31);
        is("the gap is at the end", memory.ruleIn(31), NONE);
    }

    @Says(in = COMPACT, words = "This is a change.")
    static void compactIsAChange() {
        TernaryMatcher memory = after(filled(2, 5), same -> same.remove(0));
        isAChange(memory, (same, any) -> same.compact());
        is("it is undone", memory.slotOf(1, 0), 1);
        is("moved is undone", memory.total(MOVED), 0);
    }

    @Says(in = COMPACT, words = "Returns how many entries are moved to another slot; NONE if none is.")
    static void compactAnswers() {
        is("no entry", new TernaryMatcher().compact(), NONE);
        is("one entry in its slot", filled(1, 5).compact(), NONE);
        is("all in their slots", filled(32, 5).compact(), NONE);
        TernaryMatcher memory = withGaps(16, 4, 10);
        is("those below the first gap stay", memory.compact(), 26);
        is("they are counted", memory.total(MOVED), 26);
        is("nothing is left to move", memory.compact(), NONE);
        is("nothing more is counted", memory.total(MOVED), 26);
        is("a gap at the end is none", withGaps(16, 31).compact(), NONE);
        is("only the last one moves", withGaps(16, 30).compact(), 1);
    }

    // ---- spread

    @Says(in = SPREAD, words = "Spreads all entries: with n entries the one with the place k in their order (from 0) is moved to the slot 32 * k / n, rounded down.")
    static void spreadPlaces() {
        for (int n = 1; n <= 32; n++) {
            TernaryMatcher memory = filled(n, 5);
            int moved = 0;
            for (int k = 0; k < n; k++) {
                moved += 32 * k / n == k ? 0 : 1;
            }
            is(n + " entries", memory.spread(), moved == 0 ? NONE : moved);
            for (int k = 0; k < n; k++) {
                is(n + " entries: ruleIn(" + 32 * k / n + ")", memory.ruleIn(32 * k / n), k);
                is(n + " entries: valueIn", memory.valueIn(32 * k / n), k);
                is(n + " entries: slotOf", memory.slotOf(k, 0), 32 * k / n);
            }
            is("entries", memory.total(ENTRIES), n);
        }
        TernaryMatcher memory = with(3, 5, 4, 6, 31, 7);
        is("from anywhere", memory.spread(), 3);
        is("0", memory.slotOf(3, 0), 0);
        is("32 / 3", memory.slotOf(4, 0), 10);
        is("64 / 3", memory.slotOf(31, 0), 21);
        is("the rank moves along", memory.rank(31), 7);
    }

    @Says(in = SPREAD, words = "This is a change.")
    static void spreadIsAChange() {
        TernaryMatcher memory = filled(2, 5);
        isAChange(memory, (same, any) -> same.spread());
        is("it is undone", memory.slotOf(1, 0), 1);
        is("moved is undone", memory.total(MOVED), 0);
    }

    @Says(in = SPREAD, words = "Returns how many entries are moved to another slot; NONE if none is.")
    static void spreadAnswers() {
        is("no entry", new TernaryMatcher().spread(), NONE);
        is("one entry in the slot 0", filled(1, 5).spread(), NONE);
        is("one entry in the slot 31", with(31, 5).spread(), 1);
        is("32 entries", filled(32, 5).spread(), NONE);
        is("31 entries: 32 * k / 31 is k", filled(31, 5).spread(), NONE);
        is("30 entries: those from 15 on", filled(30, 5).spread(), 15);
        TernaryMatcher memory = filled(4, 5);
        is("the first one stays", memory.spread(), 3);
        is("they are counted", memory.total(MOVED), 3);
        is("nothing is left to move", memory.spread(), NONE);
        is("nothing more is counted", memory.total(MOVED), 3);
        memory.remove(2);
        is("0, 8, 24 to 0, 10, 21", memory.spread(), 2);
        is("they are counted", memory.total(MOVED), 5);
    }

    // ---- search

    @Says(in = SEARCH, words = "Searches a key, and counts the search: its power, and a hit for the rule that is found.")
    static void searchCounts() {
        TernaryMatcher memory = new TernaryMatcher();
        memory.addRange(1, 6, 5, 7);
        memory.addRule(0, 128, 9, 4);
        is("search(6)", memory.search(6), 7);
        is("a hit", memory.hits(0), 1);
        is("none for the other", memory.hits(1), 0);
        is("the search", memory.total(SEARCHES), 1);
        is("its power", memory.total(POWERS), 5);
        memory.spread();
        is("search(0)", memory.search(0), 4);
        is("a hit", memory.hits(1), 1);
        is("the power at its time", memory.total(POWERS), 5 + 3);
        is("search(1), by another part", memory.search(1), 7);
        is("a hit", memory.hits(0), 2);
        is("searches", memory.total(SEARCHES), 3);
        int powers = memory.total(POWERS);
        memory.remove(0);
        is("what was counted stays", memory.total(POWERS), powers);
        is("what was counted stays", memory.total(SEARCHES), 3);
    }

    @Says(in = SEARCH, words = "This is a change.")
    static void searchIsAChange() {
        TernaryMatcher memory = filled(2, 5);
        isAChange(memory, (same, any) -> same.search(1));
        is("the hit is undone", memory.hits(1), 0);
        is("the search is undone", memory.total(SEARCHES), 0);
        is("the power is undone", memory.total(POWERS), 0);
    }

    @Says(in = SEARCH, words = "`key`: 0 to 255")
    static void searchKeys() {
        ends("key that is found", 0, 255, OUT_OF_RANGE, () -> after(new TernaryMatcher(), memory -> memory.addRule(0, 0, 5, 0)),
                TernaryMatcher::search);
        ends("key that is not found", 0, 255, OUT_OF_RANGE, TernaryMatcher::new, TernaryMatcher::search);
    }

    @Says(in = SEARCH, words = "Returns the action of the rule; OUT_OF_RANGE; NONE if the key finds no rule")
    static void searchAnswers() {
        TernaryMatcher memory = filled(10, 5);
        for (int key = 0; key < 10; key++) {
            is("search(" + key + ")", memory.search(key), key);
        }
        is("no rule", memory.search(10), NONE);
        is("no rule", memory.search(255), NONE);
        is("no key", memory.search(256), OUT_OF_RANGE);
        is("no key", memory.search(-1), OUT_OF_RANGE);
        is("an empty memory", new TernaryMatcher().search(0), NONE);
        is("an empty memory, no key", new TernaryMatcher().search(-1), OUT_OF_RANGE);
    }

    @Says(in = SEARCH, words = "(such a search is counted nowhere).")
    static void searchInVain() {
        // The keys 0 and 7 let the bank take part for the key 3, which no entry matches.
        TernaryMatcher memory = new TernaryMatcher();
        memory.addRule(0, 255, 5, 0);
        memory.addRule(7, 255, 5, 0);
        is("power", memory.power(3), 2);
        is("search", memory.search(3), NONE);
        is("searches", memory.total(SEARCHES), 0);
        is("powers", memory.total(POWERS), 0);
        is("hits", memory.hits(0) + memory.hits(1), 0);
        is("states", memory.total(STATES), 2);
    }
}
