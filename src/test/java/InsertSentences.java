/** The sentences of INSERTING. */
final class InsertSentences extends Sentences {
    private static final String PART = "INSERTING";

    /** Adds the rule 32 for the key 200; checks how many entries are told to be moved, and are. */
    private static TernaryMatcher insert(TernaryMatcher memory, int rank, int moves) {
        int moved = memory.total(MOVED);
        is("wouldMove(" + rank + ")", memory.wouldMove(rank), moves);
        is("addRule of the rank " + rank, memory.addRule(200, 255, rank, 0), 32);
        is("entries moved for the rank " + rank, memory.total(MOVED) - moved, moves);
        return memory;
    }

    /** The slot that a new entry of a rank is placed in, no other entry being moved. */
    private static int slotFor(TernaryMatcher memory, int placing, int rank) {
        memory.setPlacing(placing);
        return insert(memory, rank, 0).slotOf(32, 0);
    }

    @Says(in = PART, words = "From lower to higher slots the ranks of the entries never become less;")
    static void ranksNeverBecomeLess() {
        for (int placing = 0; placing <= 2; placing++) {
            for (int seed = 1; seed <= 20; seed++) {
                TernaryMatcher memory = new TernaryMatcher();
                memory.setPlacing(placing);
                for (int i = 0; i < 40; i++) {
                    memory.addRule(i, 255, i * i * seed % 101 % 100, 0);
                    if (i % 3 == 0) {
                        memory.remove(i * seed % 7 * i / 7);
                    }
                }
                ranksAscend(memory);
                memory.spread();
                memory.addRange(1, 254, 50, 0);
                memory.addRange(1, 6, 49, 0);
                ranksAscend(memory);
            }
        }
    }

    private static void ranksAscend(TernaryMatcher memory) {
        int before = 0;
        for (int slot = 0; slot < 32; slot++) {
            int rule = memory.ruleIn(slot);
            int rank = rule < 0 ? before : memory.rank(rule);
            Due.holds("rank " + rank + " in the slot " + slot + " is not less than " + before, rank >= before);
            before = rank;
        }
    }

    @Says(in = PART, words = "of entries with the same rank, the one that was inserted later is in the higher slot.")
    static void theLaterOneIsHigher() {
        for (int placing = 0; placing <= 2; placing++) {
            TernaryMatcher memory = new TernaryMatcher();
            memory.setPlacing(placing);
            memory.addRule(0, 255, 7, 0);
            memory.addRule(1, 255, 8, 0);
            memory.addRule(2, 255, 6, 0);
            for (int rule = 3; rule < 32; rule++) {
                memory.addRule(rule, 255, 7, 0);
                int slot = memory.slotOf(rule, 0);
                Due.holds("rule " + rule + " in " + slot + " is the last of its rank", memory.slotOf(1, 0) > slot);
                Due.holds("rule " + rule + " is above the one before", slot > memory.slotOf(rule == 3 ? 0 : rule - 1, 0));
            }
        }
    }

    @Says(in = PART, words = "To insert an entry of the rank r, let a be the greatest slot with an entry whose rank is at most r")
    static void aIsTheGreatestSlot() {
        is("of the same rank", slotFor(with(3, 5, 7, 5), 0, 5), 8);
        is("of a lesser rank", slotFor(with(3, 5, 7, 6), 0, 9), 8);
        is("one more is too much", slotFor(with(3, 5, 7, 6), 0, 5), 4);
        is("the last slot but one", slotFor(with(3, 5, 30, 6), 0, 6), 31);
        is("of the rank 0", slotFor(with(9, 0), 0, 0), 10);
        is("of the rank 99", slotFor(with(9, 99), 0, 99), 10);
    }

    @Says(in = PART, words = "(-1 if there is none)")
    static void aIsMinus1() {
        is("no entry at all", slotFor(with(), 0, 50), 0);
        is("all are greater", slotFor(with(9, 51, 20, 52), 0, 50), 0);
        is("all are greater, in the middle", slotFor(with(9, 51, 20, 52), 1, 50), 4);
        is("one slot ahead of them", slotFor(with(1, 51), 1, 50), 0);
        holds(insert(withGaps(16, 3), 5, 3), 0, 32, 0, 1, 2, 4);
    }

    @Says(in = PART, words = "and b the least slot with an entry whose rank is greater than r")
    static void bIsTheLeastSlot() {
        is("of two", slotFor(with(20, 6, 25, 7), 2, 5), 19);
        is("the same rank is not greater", slotFor(with(20, 5, 25, 6), 2, 5), 24);
        is("one more is greater", slotFor(with(20, 6), 2, 5), 19);
        is("the slot 1", slotFor(with(1, 6), 2, 5), 0);
    }

    @Says(in = PART, words = "(32 if there is none).")
    static void bIs32() {
        is("no entry at all", slotFor(with(), 2, 50), 31);
        is("none is greater", slotFor(with(9, 49, 20, 50), 2, 50), 31);
        is("none is greater, in the middle", slotFor(with(9, 49, 20, 50), 1, 50), 26);
        is("the last slot", slotFor(with(30, 50), 1, 50), 31);
        is("the last slot", slotFor(with(30, 50), 0, 50), 31);
        holds(insert(withGaps(16, 28), 25, 3), 27, 27, 29, 30, 31, 32);
    }

    @Says(in = PART, words = "If there are slots between a and b (they are all free), the entry is placed in one of them, by the placing rule:")
    static void nothingMovesForASlotBetween() {
        for (int placing = 0; placing <= 2; placing++) {
            is("the only slot", slotFor(withGaps(16, 15), placing, 10), 15);
            is("the only slot", slotFor(withGaps(16, 16), placing, 10), 16);
            is("the slot 0", slotFor(withGaps(16, 0), placing, 9), 0);
            is("the slot 31", slotFor(withGaps(16, 31), placing, 20), 31);
            int slot = slotFor(withGaps(16, 14, 15, 16, 17), placing, 10);
            Due.holds("one of the slots between: " + slot, slot >= 14 && slot <= 17);
        }
    }

    @Says(in = PART, words = "0 (at first) the slot a + 1,")
    static void placing0() {
        TernaryMatcher memory = new TernaryMatcher();
        is("the placing rule at first", memory.total(PLACING), 0);
        memory.addRule(1, 255, 50, 0);
        is("the empty memory", memory.slotOf(0, 0), 0);
        memory.addRule(2, 255, 50, 0);
        is("after it", memory.slotOf(1, 0), 1);
        is("between two", slotFor(with(3, 5, 10, 9), 0, 7), 4);
        is("ahead of all", slotFor(with(3, 5, 10, 9), 0, 4), 0);
        is("after all", slotFor(with(3, 5, 10, 9), 0, 9), 11);
    }

    @Says(in = PART, words = "1 the slot (a + b) / 2, rounded down,")
    static void placing1() {
        is("the empty memory: 31 / 2", slotFor(with(), 1, 50), 15);
        is("13 / 2", slotFor(with(3, 5, 10, 9), 1, 7), 6);
        is("14 / 2", slotFor(with(3, 5, 11, 9), 1, 7), 7);
        is("ahead of all: (-1 + 4) / 2", slotFor(with(4, 5), 1, 4), 1);
        is("ahead of all: (-1 + 2) / 2", slotFor(with(2, 5), 1, 4), 0);
        is("ahead of all: (-1 + 1) / 2", slotFor(with(1, 5), 1, 4), 0);
        is("after all: (29 + 32) / 2", slotFor(with(29, 5), 1, 5), 30);
        is("after all: (30 + 32) / 2", slotFor(with(30, 5), 1, 5), 31);
    }

    @Says(in = PART, words = "2 the slot b - 1.")
    static void placing2() {
        is("the empty memory", slotFor(with(), 2, 50), 31);
        is("between two", slotFor(with(3, 5, 10, 9), 2, 7), 9);
        is("ahead of all", slotFor(with(3, 5, 10, 9), 2, 4), 2);
        is("after all", slotFor(with(3, 5, 10, 9), 2, 9), 31);
    }

    @Says(in = PART, words = "Otherwise entries are moved: let d be the least free slot that is greater than a,")
    static void dIsTheLeastFreeSlot() {
        TernaryMatcher memory = insert(withGaps(16, 19, 20, 31), 10, 3);
        holds(memory, 15, 15, 32, 16, 17, 18, NONE, 21);
        is("the last gap stays", memory.ruleIn(31), NONE);
        memory = insert(withGaps(16, 31), 10, 15);
        is("d may be the last slot", memory.ruleIn(31), 30);
    }

    @Says(in = PART, words = "and u the greatest free slot that is less than b.")
    static void uIsTheGreatestFreeSlot() {
        TernaryMatcher memory = insert(withGaps(16, 0, 11, 12), 10, 3);
        holds(memory, 10, 10, NONE, 13, 14, 15, 32, 16);
        is("the first gap stays", memory.ruleIn(0), NONE);
        memory = insert(withGaps(16, 0), 10, 15);
        is("u may be the slot 0", memory.ruleIn(0), 1);
    }

    @Says(in = PART, words = "Either all entries from the slot b to the slot d - 1 move to the next slot each, and the new entry is placed in the slot b;")
    static void entriesMoveUp() {
        TernaryMatcher memory = insert(withGaps(16, 20), 10, 4);
        holds(memory, 12, 12, 13, 14, 15, 32, 16, 17, 18, 19, 21, 22);
        is("no slot is free", memory.total(ENTRIES), 32);
        memory = insert(withGaps(16, 17), 10, 1);
        holds(memory, 15, 15, 32, 16, 18);
        memory = insert(withGaps(16, 31), 9, 31);
        holds(memory, 0, 32, 0, 1, 2);
        holds(memory, 28, 27, 28, 29, 30);
        is("the value moves along", memory.valueIn(31), 30);
        is("the mask moves along", memory.maskIn(31), 255);
        is("the rank moves along", memory.rank(30), 20);
        is("the part moves along", memory.slotOf(30, 0), 31);
    }

    @Says(in = PART, words = "or all entries from the slot u + 1 to the slot a move to the previous slot each, and the new entry is placed in the slot a.")
    static void entriesMoveDown() {
        TernaryMatcher memory = insert(withGaps(16, 11), 10, 4);
        holds(memory, 9, 9, 10, 12, 13, 14, 15, 32, 16, 17);
        is("no slot is free", memory.total(ENTRIES), 32);
        memory = insert(withGaps(16, 14), 10, 1);
        holds(memory, 13, 13, 15, 32, 16);
        memory = insert(withGaps(16, 0), 20, 31);
        holds(memory, 0, 1, 2, 3);
        holds(memory, 28, 29, 30, 31, 32);
        is("the value moves along", memory.valueIn(0), 1);
        is("the mask moves along", memory.maskIn(0), 255);
        is("the rank moves along", memory.rank(1), 10);
        is("the part moves along", memory.slotOf(1, 0), 0);
    }

    @Says(in = PART, words = "That is done which moves fewer entries;")
    static void fewerEntries() {
        is("4 up, 5 down", insert(withGaps(16, 10, 20), 10, 4).slotOf(32, 0), 16);
        is("5 up, 4 down", insert(withGaps(16, 11, 21), 10, 4).slotOf(32, 0), 15);
        is("1 up, 2 down", insert(withGaps(16, 13, 17), 10, 1).slotOf(32, 0), 16);
        is("2 up, 1 down", insert(withGaps(16, 14, 18), 10, 1).slotOf(32, 0), 15);
        is("14 up, 15 down", insert(withGaps(16, 0, 30), 10, 14).slotOf(32, 0), 16);
        is("15 up, 14 down", insert(withGaps(16, 1, 31), 10, 14).slotOf(32, 0), 15);
    }

    @Says(in = PART, words = "if both move as many, the first one;")
    static void theFirstOneOnATie() {
        TernaryMatcher memory = insert(withGaps(16, 12, 19), 10, 3);
        holds(memory, 11, 11, NONE, 13, 14, 15, 32, 16, 17, 18, 20);
        is("one entry each", insert(withGaps(16, 14, 17), 10, 1).slotOf(32, 0), 16);
        is("15 entries each", insert(withGaps(16, 0, 31), 10, 15).slotOf(32, 0), 16);
    }

    @Says(in = PART, words = "if there is no d, the second one;")
    static void noD() {
        holds(insert(withGaps(16, 0), 10, 15), 13, 14, 15, 32, 16);
        holds(insert(withGaps(30, 0), 10, 29), 27, 28, 29, 32, 30, 31);
        holds(insert(withGaps(16, 30), 20, 1), 29, 29, 31, 32);
    }

    @Says(in = PART, words = "if there is no u, the first one.")
    static void noU() {
        holds(insert(withGaps(16, 31), 10, 15), 14, 14, 15, 32, 16);
        holds(insert(withGaps(2, 31), 10, 29), 0, 0, 1, 32, 2, 3);
        holds(insert(withGaps(16, 1), 9, 1), 0, 32, 0, 2);
    }

    @Says(in = PART, words = "If there is neither, the memory is full.")
    static void neither() {
        int[] ranks = {0, 9, 10, 15, 20, 99};
        for (int rank : ranks) {
            TernaryMatcher memory = withGaps(16);
            is("addRule of the rank " + rank, memory.addRule(200, 255, rank, 0), FULL);
            is("addRange of the rank " + rank, memory.addRange(200, 200, rank, 0), FULL);
            is("wouldMove(" + rank + ")", memory.wouldMove(rank), FULL);
            type(memory, "11001000," + rank + ",0");
            is("addText of the rank " + rank, memory.addText(), FULL);
            is("nothing is moved", memory.total(MOVED), 0);
        }
    }
}
