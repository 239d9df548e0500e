/** Promises 1 to 8: a new object, and the changes. */
final class ChangesTest {
    private static final int MIN = Integer.MIN_VALUE;
    private static final int MAX = Integer.MAX_VALUE;

    public static void main(String[] args) {
        newObject();
        addRuleAnswers();
        addRuleOrdersByRank();
        addRuleErrors();
        placings();
        movesTowardsTheNearerGap();
        movesUpOnATie();
        movesTheOnlyWayLeft();
        addRangeBlocks();
        addRangeErrors();
        removing();
        placingRule();
        compacting();
        spreading();
        searching();
        Due.end("ChangesTest");
    }

    private static void newObject() {
        TernaryMatcher memory = new TernaryMatcher();
        for (int what = 0; what <= 10; what++) {
            Due.is("new: total(" + what + ")", memory.total(what), what == 8 ? 256 : 0);
        }
        for (int slot = 0; slot < 32; slot++) {
            Due.is("new: ruleIn(" + slot + ")", memory.ruleIn(slot), TernaryMatcher.NONE);
        }
        Due.is("new: find(0)", memory.find(0), TernaryMatcher.NONE);
    }

    private static void addRuleAnswers() {
        TernaryMatcher memory = new TernaryMatcher();
        Due.is("first rule", memory.addRule(255, 240, 99, 9), 0);
        Due.is("second rule", memory.addRule(0, 0, 0, 0), 1);
        Due.is("bits out of the mask are 0", memory.valueIn(memory.slotOf(0, 0)), 240);
        Due.is("mask", memory.maskIn(memory.slotOf(0, 0)), 240);
        Due.is("rank", memory.rank(0), 99);
        Due.is("action", memory.action(0), 9);
        Due.is("hits", memory.hits(0), 0);
        Due.is("rank", memory.rank(1), 0);
        Due.is("action", memory.action(1), 0);
        memory.remove(1);
        Due.is("no number is used again", memory.addRule(1, 255, 5, 5), 2);
        Due.is("history", memory.total(9), 4);
    }

    private static void addRuleOrdersByRank() {
        TernaryMatcher memory = new TernaryMatcher();
        memory.addRule(1, 255, 50, 0);
        memory.addRule(2, 255, 20, 0);
        memory.addRule(3, 255, 50, 0);
        memory.addRule(4, 255, 20, 0);
        memory.addRule(5, 255, 99, 0);
        int[] want = {1, 3, 0, 2, 4};
        for (int slot = 0; slot < 5; slot++) {
            Due.is("by rank, then by time: slot " + slot, memory.ruleIn(slot), want[slot]);
        }
        Due.is("moved: 1, then none, 2, none", memory.total(4), 3);
    }

    private static void addRuleErrors() {
        TernaryMatcher memory = Due.filled(32, 5);
        int[][] off = {
            {-1, 0, 0, 0}, {256, 0, 0, 0}, {0, -1, 0, 0}, {0, 256, 0, 0}, {0, 0, -1, 0}, {0, 0, 100, 0},
            {0, 0, 0, -1}, {0, 0, 0, 10}, {MIN, 0, 0, 0}, {0, MAX, 0, 0}, {0, 0, MIN, 0}, {0, 0, 0, MAX}
        };
        for (int[] a : off) {
            Due.is("out of range before full", memory.addRule(a[0], a[1], a[2], a[3]), TernaryMatcher.OUT_OF_RANGE);
        }
        Due.is("full", memory.addRule(0, 0, 0, 0), TernaryMatcher.FULL);
        Due.is("an error adds no rule", memory.total(2), 32);
        Due.is("an error moves nothing", memory.total(4), 0);
        memory.remove(0);
        memory.remove(1);
        Due.is("rule", memory.addRule(255, 255, 99, 9), 32);
        memory.undo();
        memory.undo();
        Due.is("the errors were not recorded", memory.undo(), 1);
        Due.is("entries after three undos", memory.total(0), 32);
    }

    private static void placings() {
        for (int placing = 0; placing <= 2; placing++) {
            TernaryMatcher memory = new TernaryMatcher();
            memory.setPlacing(placing);
            memory.addRule(1, 255, 5, 0);
            int[] alone = {0, 15, 31};
            Due.is("alone, placing " + placing, memory.slotOf(0, 0), alone[placing]);
            memory.addRule(2, 255, 9, 0);
            int[] above = {1, 23, 31};
            Due.is("above, placing " + placing, memory.slotOf(1, 0), above[placing]);
            memory.addRule(3, 255, 7, 0);
            int[] between = {1, 19, 30};
            Due.is("between, placing " + placing, memory.slotOf(2, 0), between[placing]);
            memory.addRule(4, 255, 7, 0);
            int[] last = {2, 21, 30};
            Due.is("after the same rank, placing " + placing, memory.slotOf(3, 0), last[placing]);
        }
        TernaryMatcher memory = new TernaryMatcher();
        memory.setPlacing(1);
        memory.addRule(1, 255, 5, 0);
        memory.addRule(2, 255, 5, 0);
        Due.is("(15 + 32) / 2", memory.slotOf(1, 0), 23);
        memory.addRule(3, 255, 4, 0);
        Due.is("(-1 + 15) / 2", memory.slotOf(2, 0), 7);
    }

    /** Entries of one rank in the slots 0 to 31 but for the given gaps; rule n was in slot n. */
    private static TernaryMatcher withGaps(int ranksBelow, int... gaps) {
        TernaryMatcher memory = new TernaryMatcher();
        for (int slot = 0; slot < 32; slot++) {
            memory.addRule(slot, 255, slot < ranksBelow ? 10 : 20, 0);
        }
        for (int gap : gaps) {
            memory.remove(gap);
        }
        return memory;
    }

    private static void movesTowardsTheNearerGap() {
        TernaryMatcher memory = withGaps(16, 10, 20);
        Due.is("would move up", memory.wouldMove(10), 4);
        Due.is("rule", memory.addRule(200, 255, 10, 0), 32);
        Due.is("placed in b", memory.slotOf(32, 0), 16);
        Due.is("16 moves on", memory.slotOf(16, 0), 17);
        Due.is("19 moves on", memory.slotOf(19, 0), 20);
        Due.is("21 stays", memory.slotOf(21, 0), 21);
        Due.is("15 stays", memory.slotOf(15, 0), 15);
        Due.is("the far gap stays", memory.ruleIn(10), TernaryMatcher.NONE);
        Due.is("moved", memory.total(4), 4);
        memory = withGaps(16, 10, 22);
        Due.is("would move down", memory.wouldMove(10), 5);
        memory.addRule(200, 255, 10, 0);
        Due.is("placed in a", memory.slotOf(32, 0), 15);
        Due.is("15 moves back", memory.slotOf(15, 0), 14);
        Due.is("11 moves back", memory.slotOf(11, 0), 10);
        Due.is("9 stays", memory.slotOf(9, 0), 9);
        Due.is("16 stays", memory.slotOf(16, 0), 16);
        Due.is("the far gap stays", memory.ruleIn(22), TernaryMatcher.NONE);
        Due.is("moved", memory.total(4), 5);
    }

    private static void movesUpOnATie() {
        TernaryMatcher memory = withGaps(16, 12, 19);
        Due.is("as many each way", memory.wouldMove(10), 3);
        memory.addRule(200, 255, 10, 0);
        Due.is("the first way", memory.slotOf(32, 0), 16);
        Due.is("gap below", memory.ruleIn(12), TernaryMatcher.NONE);
        Due.is("gap above is taken", memory.ruleIn(19), 18);
    }

    private static void movesTheOnlyWayLeft() {
        TernaryMatcher memory = withGaps(16, 1);
        Due.is("only down", memory.wouldMove(10), 14);
        memory.addRule(200, 255, 10, 0);
        Due.is("placed in a", memory.slotOf(32, 0), 15);
        Due.is("2 moves to 1", memory.slotOf(2, 0), 1);
        memory = withGaps(16, 0);
        memory.search(3);
        Due.is("down to the slot 0", memory.wouldMove(10), 15);
        memory.addRule(200, 255, 10, 0);
        Due.is("placed in a", memory.slotOf(32, 0), 15);
        Due.is("1 moves to 0", memory.slotOf(1, 0), 0);
        Due.is("hits move along", memory.hits(3), 1);
        Due.is("the others have none", memory.hits(2) + memory.hits(4), 0);
        memory = withGaps(16, 31);
        Due.is("only up", memory.wouldMove(10), 15);
        memory.addRule(200, 255, 10, 0);
        Due.is("placed in b", memory.slotOf(32, 0), 16);
        Due.is("30 moves to 31", memory.slotOf(30, 0), 31);
        memory = withGaps(16, 5);
        memory.addRule(200, 255, 30, 0);
        Due.is("past all: no b", memory.slotOf(32, 0), 31);
        Due.is("moved", memory.total(4), 26);
        memory = withGaps(16, 5);
        memory.addRule(200, 255, 0, 0);
        Due.is("ahead of all: no a", memory.slotOf(32, 0), 0);
        Due.is("moved", memory.total(4), 5);
    }

    private static void addRangeBlocks() {
        TernaryMatcher memory = new TernaryMatcher();
        memory.addRule(0, 0, 50, 1);
        Due.is("range", memory.addRange(5, 20, 7, 3), 1);
        int[] masks = {255, 254, 248, 252, 255};
        int[] values = {5, 6, 8, 16, 20};
        Due.is("parts", memory.parts(1), 5);
        for (int part = 0; part < 5; part++) {
            int slot = memory.slotOf(1, part);
            Due.is("slot of part " + part, slot, part);
            Due.is("mask of part " + part, memory.maskIn(slot), masks[part]);
            Due.is("value of part " + part, memory.valueIn(slot), values[part]);
            Due.is("rule of part " + part, memory.ruleIn(slot), 1);
        }
        Due.is("the entry above is moved each time", memory.total(4), 5);
        Due.is("rank", memory.rank(1), 7);
        Due.is("action", memory.action(1), 3);
        Due.is("one change", memory.undo(), 1);
        Due.is("no part is left", memory.total(0), 1);
        Due.is("all keys", memory.addRange(0, 255, 99, 9), 1);
        Due.is("mask 0", memory.maskIn(memory.slotOf(1, 0)), 0);
        Due.is("one key", memory.addRange(255, 255, 0, 0), 2);
        Due.is("mask 255", memory.maskIn(memory.slotOf(2, 0)), 255);
        Due.is("one key's part", memory.parts(2), 1);
        Due.is("half", memory.addRange(128, 255, 0, 0), 3);
        Due.is("mask 128", memory.maskIn(memory.slotOf(3, 0)), 128);
    }

    private static void addRangeErrors() {
        TernaryMatcher memory = Due.filled(19, 5);
        int[][] off = {
            {-1, 5, 0, 0}, {0, 256, 0, 0}, {6, 5, 0, 0}, {256, 256, 0, 0}, {0, 5, -1, 0}, {0, 5, 100, 0},
            {0, 5, 0, -1}, {0, 5, 0, 10}, {MIN, MAX, 0, 0}, {MAX, MIN, 0, 0}, {0, MAX, 0, 0}, {MIN, 0, 0, 0}
        };
        for (int[] a : off) {
            Due.is("out of range", memory.addRange(a[0], a[1], a[2], a[3]), TernaryMatcher.OUT_OF_RANGE);
        }
        Due.is("13 free, 14 needed", memory.addRange(1, 254, 5, 0), TernaryMatcher.FULL);
        Due.is("nothing is added", memory.total(0), 19);
        Due.is("no number is used", memory.total(2), 19);
        Due.is("13 free, 13 needed", memory.addRange(1, 252, 5, 0), 19);
        Due.is("no slot is free", memory.total(0), 32);
        Due.is("full", memory.addRange(0, 0, 5, 0), TernaryMatcher.FULL);
        Due.is("out of range before full", memory.addRange(1, 0, 5, 0), TernaryMatcher.OUT_OF_RANGE);
    }

    private static void removing() {
        TernaryMatcher memory = new TernaryMatcher();
        memory.addRule(1, 255, 5, 0);
        memory.addRange(1, 6, 5, 0);
        memory.addRule(2, 255, 5, 0);
        int[] unknown = {-1, 3, MIN, MAX};
        for (int rule : unknown) {
            Due.is("remove(" + rule + ")", memory.remove(rule), TernaryMatcher.UNKNOWN);
        }
        Due.is("not recorded", memory.total(9), 3);
        Due.is("four entries", memory.remove(1), 4);
        Due.is("recorded", memory.total(9), 4);
        Due.is("gone", memory.remove(1), TernaryMatcher.UNKNOWN);
        Due.is("no other entry is moved", memory.slotOf(2, 0), 5);
        Due.is("no other entry is moved", memory.slotOf(0, 0), 0);
        Due.is("entries", memory.total(0), 2);
        for (int slot = 1; slot <= 4; slot++) {
            Due.is("free slot " + slot, memory.ruleIn(slot), TernaryMatcher.NONE);
        }
        Due.is("moved", memory.total(4), 0);
    }

    private static void placingRule() {
        TernaryMatcher memory = new TernaryMatcher();
        Due.is("it is 0 at first", memory.setPlacing(0), TernaryMatcher.NONE);
        Due.is("2", memory.setPlacing(2), 0);
        Due.is("2 again", memory.setPlacing(2), TernaryMatcher.NONE);
        Due.is("1", memory.setPlacing(1), 2);
        int[] off = {-1, 3, MIN, MAX};
        for (int placing : off) {
            Due.is("setPlacing(" + placing + ")", memory.setPlacing(placing), TernaryMatcher.OUT_OF_RANGE);
        }
        Due.is("told", memory.total(3), 1);
        Due.is("recorded twice", memory.total(9), 2);
        memory.undo();
        Due.is("undone", memory.total(3), 2);
    }

    private static void compacting() {
        TernaryMatcher memory = new TernaryMatcher();
        Due.is("nothing to compact", memory.compact(), TernaryMatcher.NONE);
        memory = Due.filled(6, 5);
        Due.is("no gap", memory.compact(), TernaryMatcher.NONE);
        memory.remove(1);
        memory.remove(4);
        Due.is("moved", memory.compact(), 3);
        int[] want = {0, 2, 3, 5};
        for (int slot = 0; slot < 4; slot++) {
            Due.is("compact slot " + slot, memory.ruleIn(slot), want[slot]);
            Due.is("compact value " + slot, memory.valueIn(slot), want[slot]);
            Due.is("compact action " + slot, memory.action(want[slot]), want[slot]);
            Due.is("compact rank " + slot, memory.rank(want[slot]), 5);
        }
        Due.is("slot 4 is free", memory.ruleIn(4), TernaryMatcher.NONE);
        Due.is("slot 5 is free", memory.ruleIn(5), TernaryMatcher.NONE);
        Due.is("moved so far", memory.total(4), 3);
        Due.is("again", memory.compact(), TernaryMatcher.NONE);
        Due.is("moved so far", memory.total(4), 3);
        Due.is("undo", memory.undo(), 3);
        Due.is("gap again", memory.ruleIn(1), TernaryMatcher.NONE);
        Due.is("moved so far is undone", memory.total(4), 0);
    }

    private static void spreading() {
        TernaryMatcher memory = new TernaryMatcher();
        Due.is("nothing to spread", memory.spread(), TernaryMatcher.NONE);
        memory = Due.filled(5, 5);
        Due.is("the first one stays", memory.spread(), 4);
        int[] want = {0, 6, 12, 19, 25};
        for (int rule = 0; rule < 5; rule++) {
            Due.is("spread: slot of " + rule, memory.slotOf(rule, 0), want[rule]);
            Due.is("spread: rule in", memory.ruleIn(want[rule]), rule);
            Due.is("spread: value", memory.valueIn(want[rule]), rule);
        }
        Due.is("entries", memory.total(0), 5);
        Due.is("again", memory.spread(), TernaryMatcher.NONE);
        Due.is("moved so far", memory.total(4), 4);
        memory.remove(0);
        Due.is("all change: 6, 12, 19, 25 to 0, 8, 16, 24", memory.spread(), 4);
        Due.is("32 * 3 / 4", memory.slotOf(4, 0), 24);
        Due.is("compact", memory.compact(), 3);
        Due.is("moved so far", memory.total(4), 11);
        memory = Due.filled(32, 5);
        Due.is("a full memory is spread", memory.spread(), TernaryMatcher.NONE);
        memory.remove(31);
        Due.is("31 entries stay: 32 * k / 31 is k", memory.spread(), TernaryMatcher.NONE);
        memory.remove(0);
        Due.is("30 entries: 1 to 15 move", memory.spread(), 15);
    }

    private static void searching() {
        TernaryMatcher memory = new TernaryMatcher();
        memory.addRange(1, 6, 5, 7);
        memory.addRule(0, 128, 9, 4);
        Due.is("found", memory.search(6), 7);
        Due.is("found by the other rule", memory.search(0), 4);
        Due.is("found by another part", memory.search(1), 7);
        Due.is("none", memory.search(128), TernaryMatcher.NONE);
        int[] off = {-1, 256, MIN, MAX};
        for (int key : off) {
            Due.is("search(" + key + ")", memory.search(key), TernaryMatcher.OUT_OF_RANGE);
        }
        Due.is("hits", memory.hits(0), 2);
        Due.is("hits", memory.hits(1), 1);
        Due.is("searches", memory.total(5), 3);
        Due.is("powers", memory.total(6), 15);
        Due.is("undo a search", memory.undo(), 3);
        Due.is("hits", memory.hits(0), 1);
        Due.is("searches", memory.total(5), 2);
        Due.is("powers", memory.total(6), 10);
        memory.remove(0);
        Due.is("searches stay counted", memory.total(5), 2);
        Due.is("action 0 is no error", Due.filled(1, 5).search(0), 0);
        memory.compact();
        Due.is("hits move along", memory.hits(1), 1);
    }
}
