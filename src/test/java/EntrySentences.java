/** The sentences of ENTRIES AND RULES. */
final class EntrySentences extends Sentences {
    private static final String PART = "ENTRIES AND RULES";

    @Says(in = PART, words = "There are 32 slots, numbered from 0;")
    static void slots0To31() {
        TernaryMatcher memory = filled(32, 5);
        is("entries", memory.total(ENTRIES), 32);
        for (int slot = 0; slot < 32; slot++) {
            is("ruleIn(" + slot + ")", memory.ruleIn(slot), slot);
        }
        is("a 33rd entry", memory.addRule(99, 255, 5, 0), FULL);
        is("no slot ahead of the first", memory.ruleIn(-1), UNKNOWN);
        is("no slot after the last", memory.ruleIn(32), UNKNOWN);
    }

    @Says(in = PART, words = "the bank b (0 to 3) consists of the slots 8 * b to 8 * b + 7.")
    static void eightSlotsABank() {
        for (int slot = 0; slot < 32; slot++) {
            TernaryMatcher memory = with(slot, 50);
            for (int bank = 0; bank < 4; bank++) {
                boolean own = slot >= 8 * bank && slot <= 8 * bank + 7;
                is("slot " + slot + ": filterMask(" + bank + ")", memory.filterMask(bank), own ? 255 : 0);
                is("slot " + slot + ": filterValue(" + bank + ")", memory.filterValue(bank), own ? slot : 0);
            }
            is("no bank -1", memory.filterMask(-1), UNKNOWN);
            is("no bank 4", memory.filterMask(4), UNKNOWN);
        }
    }

    @Says(in = PART, words = "A slot is free, or holds one entry.")
    static void freeOrOneEntry() {
        TernaryMatcher memory = new TernaryMatcher();
        for (int slot = 0; slot < 32; slot++) {
            is("at first: ruleIn(" + slot + ")", memory.ruleIn(slot), NONE);
        }
        memory.addRule(7, 255, 5, 0);
        is("held", memory.ruleIn(0), 0);
        memory.addRule(7, 255, 5, 0);
        is("the same entry again is in another slot", memory.ruleIn(1), 1);
        is("held still", memory.ruleIn(0), 0);
        memory.remove(0);
        is("free again", memory.ruleIn(0), NONE);
        memory.addRule(8, 255, 4, 0);
        is("taken again", memory.ruleIn(0), 2);
        is("by one entry", memory.total(ENTRIES), 2);
    }

    @Says(in = PART, words = "An entry has a mask and a value of 8 bits each: the bits that are 1 in the mask matter;")
    static void bitsThatMatter() {
        for (int bit = 1; bit <= 128; bit *= 2) {
            TernaryMatcher memory = new TernaryMatcher();
            memory.addRule(bit, bit, 5, 0);
            is("mask", memory.maskIn(0), bit);
            is("value", memory.valueIn(0), bit);
            is("only this bit", memory.find(bit), 0);
            is("all bits", memory.find(255), 0);
            is("all but this bit", memory.find(255 - bit), NONE);
            is("no bit", memory.find(0), NONE);
            is("half of the keys", memory.keysFor(0), 128);
        }
    }

    @Says(in = PART, words = "the value is 0 in all other bits.")
    static void valueIs0OutOfTheMask() {
        for (int mask = 0; mask < 256; mask++) {
            TernaryMatcher memory = new TernaryMatcher();
            memory.addRule(255, mask, 5, 0);
            memory.addRule(0b01011010, mask, 5, 0);
            is("value 255 under mask " + mask, memory.valueIn(0), mask);
            is("value 90 under mask " + mask, memory.valueIn(1), 0b01011010 & mask);
        }
        TernaryMatcher memory = typed("1*1*1*1*,5,0");
        memory.addText();
        is("of a text", memory.valueIn(0), 0b10101010);
    }

    @Says(in = PART, words = "An entry matches a key (0 to 255) if the key has the bits of the value wherever the mask is 1.")
    static void matchingKeys() {
        String[] entries = {"********", "00000000", "11111111", "1*******", "*******0", "1*0*10*1", "0000****", "*1111111"};
        for (String entry : entries) {
            TernaryMatcher memory = typed(entry + ",5,0");
            memory.addText();
            for (int key = 0; key < 256; key++) {
                is(entry + ": find(" + key + ")", memory.find(key), bits(key).matches(entry.replace('*', '.')) ? 0 : NONE);
            }
        }
        is("no key -1", new TernaryMatcher().find(-1), OUT_OF_RANGE);
        is("no key 256", new TernaryMatcher().find(256), OUT_OF_RANGE);
    }

    @Says(in = PART, words = "An entry belongs to a rule; a rule has one entry or several")
    static void oneEntryOrSeveral() {
        TernaryMatcher memory = new TernaryMatcher();
        memory.addRule(0, 255, 5, 0);
        memory.addRange(1, 254, 5, 0);
        memory.addRange(8, 15, 5, 0);
        is("a rule's entries", memory.parts(0), 1);
        is("a range's entries", memory.parts(1), 14);
        is("a range of one block", memory.parts(2), 1);
        is("the first entry's rule", memory.ruleIn(0), 0);
        for (int slot = 1; slot <= 14; slot++) {
            is("ruleIn(" + slot + ")", memory.ruleIn(slot), 1);
        }
        is("the last entry's rule", memory.ruleIn(15), 2);
    }

    @Says(in = PART, words = "(its parts, numbered from 0 in the order in which they were inserted)")
    static void partsAreNumbered() {
        TernaryMatcher memory = withGaps(16, 2, 5, 20, 28);
        is("four parts", memory.addRange(1, 6, 10, 0), 32);
        int[] firstKeys = {1, 2, 4, 6};
        for (int part = 0; part < 4; part++) {
            is("part " + part, memory.valueIn(memory.slotOf(32, part)), firstKeys[part]);
        }
        is("no part 4", memory.slotOf(32, 4), UNKNOWN);
        is("no part -1", memory.slotOf(32, -1), UNKNOWN);
        memory.undo();
        is("a single entry is the part 0", memory.slotOf(31, 0), 31);
    }

    @Says(in = PART, words = ", a rank (0 to 99)")
    static void ranks0To99() {
        TernaryMatcher memory = new TernaryMatcher();
        is("rank -1", memory.addRule(0, 0, -1, 0), OUT_OF_RANGE);
        is("rank 100", memory.addRule(0, 0, 100, 0), OUT_OF_RANGE);
        is("rank 99", memory.addRule(0, 0, 99, 0), 0);
        is("rank 0", memory.addRange(1, 2, 0, 0), 1);
        is("the greatest rank", memory.rank(0), 99);
        is("the least rank", memory.rank(1), 0);
        holds(memory, 0, 1, 1, 0);
    }

    @Says(in = PART, words = "and an action (0 to 9).")
    static void actions0To9() {
        TernaryMatcher memory = new TernaryMatcher();
        is("action -1", memory.addRule(0, 0, 0, -1), OUT_OF_RANGE);
        is("action 10", memory.addRule(0, 0, 0, 10), OUT_OF_RANGE);
        for (int action = 0; action <= 9; action++) {
            is("rule", memory.addRule(action, 255, 5, action), action);
            is("action", memory.action(action), action);
            is("the search's answer", memory.search(action), action);
        }
    }

    @Says(in = PART, words = "Rules are numbered from 0 in the order in which they are added;")
    static void rulesAreNumbered() {
        TernaryMatcher memory = typed("00000000,9,0;11111111,1,0");
        is("the first rule", memory.addRule(1, 255, 50, 0), 0);
        is("one number for all parts", memory.addRange(1, 254, 40, 0), 1);
        is("one ahead of the others", memory.addRule(2, 255, 0, 0), 2);
        is("two of a text", memory.addText(), 2);
        is("the text's first one", memory.rank(3), 9);
        is("the text's second one", memory.rank(4), 1);
        is("the next one", memory.addRule(3, 255, 60, 0), 5);
    }

    @Says(in = PART, words = "no number is used again.")
    static void noNumberTwice() {
        TernaryMatcher memory = new TernaryMatcher();
        for (int rule = 0; rule < 40; rule++) {
            is("rule", memory.addRule(rule, 255, 5, 0), rule);
            is("removed", memory.remove(rule), 1);
        }
        is("a range", memory.addRange(1, 2, 5, 0), 40);
        is("removed", memory.remove(40), 2);
        is("the memory is empty", memory.total(ENTRIES), 0);
        is("and goes on", memory.addRule(1, 255, 5, 0), 41);
        is("the first number is gone", memory.rank(0), UNKNOWN);
    }

    @Says(in = PART, words = "An entry is exact if its mask is 255;")
    static void exactEntries() {
        TernaryMatcher memory = new TernaryMatcher();
        memory.addRule(0, 255, 5, 0);
        memory.addRule(255, 255, 5, 0);
        memory.addRange(77, 77, 5, 0);
        memory.addRule(255, 254, 5, 0);
        memory.addRule(255, 127, 5, 0);
        for (int slot = 0; slot < 3; slot++) {
            is("exact: sortIn(" + slot + ")", memory.sortIn(slot), 0);
        }
        is("without the lowest bit", memory.sortIn(3), 1);
        is("without the highest bit", memory.sortIn(4), 2);
    }

    @Says(in = PART, words = "otherwise it is a prefix if the bits that are 1 in its mask are the highest ones (or there are none);")
    static void prefixes() {
        int[] masks = {0, 128, 192, 224, 240, 248, 252, 254};
        for (int mask : masks) {
            TernaryMatcher memory = new TernaryMatcher();
            memory.addRule(0, mask, 5, 0);
            is("sort of the mask " + mask, memory.sortIn(0), 1);
        }
    }

    @Says(in = PART, words = "otherwise it is general.")
    static void generalEntries() {
        int general = 0;
        for (int mask = 0; mask < 256; mask++) {
            TernaryMatcher memory = new TernaryMatcher();
            memory.addRule(0, mask, 5, 0);
            // A mask that is neither all ones nor ones followed by zeros has a 0 ahead of a 1.
            int want = bits(mask).contains("01") ? 2 : mask == 255 ? 0 : 1;
            is("sort of the mask " + mask, memory.sortIn(0), want);
            general += want == 2 ? 1 : 0;
        }
        is("general masks", general, 247);
    }

    @Says(in = PART, words = "A key finds the entry in the least slot that matches it, and the rule of this entry.")
    static void theLeastSlotWins() {
        TernaryMatcher memory = new TernaryMatcher();
        memory.setPlacing(2);
        for (int rule = 0; rule < 32; rule++) {
            memory.addRule(0, rule % 2 == 0 ? 0 : 128, 31 - rule, rule % 10);
        }
        for (int rule = 31; rule >= 1; rule -= 2) {
            is("a key that all match", memory.find(5), rule);
            is("a key that half of them match", memory.find(200), rule - 1);
            is("the slot that it finds", memory.keysFor(31 - rule), 128);
            memory.remove(rule);
            is("one that is left", memory.find(5), rule - 1);
            memory.remove(rule - 1);
        }
        is("none is left", memory.find(5), NONE);
    }
}
