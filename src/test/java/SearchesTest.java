/** Promises 24 to 32: what is told without a change. */
final class SearchesTest {
    private static final int[] NO_KEYS = {-1, 256, Integer.MIN_VALUE, Integer.MAX_VALUE};

    public static void main(String[] args) {
        finding();
        powers();
        filters();
        hidden();
        keys();
        movesThatWouldBe();
        entriesOfRanges();
        totals();
        nothingIsChanged();
        Due.end("SearchesTest");
    }

    private static void finding() {
        TernaryMatcher memory = new TernaryMatcher();
        for (int key : NO_KEYS) {
            Due.is("find(" + key + ")", memory.find(key), TernaryMatcher.OUT_OF_RANGE);
        }
        Due.is("none", memory.find(255), TernaryMatcher.NONE);
        memory.addRule(0b10100000, 0b11100000, 9, 0);
        memory.addRule(0b00000101, 0b00000111, 9, 0);
        memory.addRule(0b10100101, 0b11111111, 8, 0);
        Due.is("the least slot", memory.find(0b10100101), 2);
        Due.is("the next one", memory.find(0b10110101), 0);
        Due.is("the last one", memory.find(0b11111101), 1);
        Due.is("no one", memory.find(0b11111111), TernaryMatcher.NONE);
        memory.addRule(0, 0, 99, 0);
        Due.is("all bits open", memory.find(255), 3);
        Due.is("all bits open", memory.find(0), 3);
    }

    private static void powers() {
        TernaryMatcher memory = new TernaryMatcher();
        for (int key : NO_KEYS) {
            Due.is("power(" + key + ")", memory.power(key), TernaryMatcher.OUT_OF_RANGE);
        }
        Due.is("an empty bank takes no part", memory.power(0), 0);
        for (int i = 0; i < 8; i++) {
            memory.addRule(0b11000000 + i, 255, 5, 0);
        }
        memory.addRule(0b10000000, 192, 5, 0);
        memory.addRule(0b11111111, 192, 5, 0);
        Due.is("filter 11000***", memory.power(0b11000111), 10);
        Due.is("only bank 1", memory.power(0b11001000), 2);
        Due.is("only bank 1", memory.power(0b10000000), 2);
        Due.is("no bank", memory.power(0b01000000), 0);
        memory.setPlacing(2);
        memory.addRule(1, 255, 9, 0);
        Due.is("bank 3", memory.power(1), 1);
        memory.addRule(0, 0, 9, 0);
        Due.is("a filter without bits", memory.power(1), 2);
        Due.is("a filter without bits", memory.power(0b11000000), 12);
    }

    private static void filters() {
        TernaryMatcher memory = new TernaryMatcher();
        int[] off = {-1, 4, Integer.MIN_VALUE, Integer.MAX_VALUE};
        for (int bank : off) {
            Due.is("filterMask(" + bank + ")", memory.filterMask(bank), TernaryMatcher.UNKNOWN);
            Due.is("filterValue(" + bank + ")", memory.filterValue(bank), TernaryMatcher.UNKNOWN);
        }
        for (int bank = 0; bank < 4; bank++) {
            Due.is("empty filterMask(" + bank + ")", memory.filterMask(bank), 0);
            Due.is("empty filterValue(" + bank + ")", memory.filterValue(bank), 0);
        }
        memory.addRule(0b10101010, 0b11111100, 5, 0);
        Due.is("one entry: its mask", memory.filterMask(0), 0b11111100);
        Due.is("one entry: its value", memory.filterValue(0), 0b10101000);
        memory.addRule(0b10011010, 0b11111010, 5, 0);
        Due.is("bits that matter to both and are the same", memory.filterMask(0), 0b11001000);
        Due.is("their value", memory.filterValue(0), 0b10001000);
        memory.addRule(0b00000000, 0b10000000, 5, 0);
        Due.is("no bit is left", memory.filterMask(0), 0);
        Due.is("no bit is left", memory.filterValue(0), 0);
        memory.spread();
        Due.is("slot 21", memory.filterMask(2), 128);
        Due.is("slot 21", memory.filterValue(2), 0);
        Due.is("slot 10", memory.filterMask(1), 0b11111010);
        Due.is("slot 10", memory.filterValue(1), 0b10011010);
        Due.is("slot 0", memory.filterValue(0), 0b10101000);
        Due.is("bank 3 is empty", memory.filterMask(3), 0);
        memory = Due.filled(16, 5);
        for (int rule = 0; rule < 8; rule++) {
            memory.remove(rule);
        }
        Due.is("slot 8 is not in bank 0", memory.filterMask(0), 0);
        Due.is("slot 8 is in bank 1", memory.filterMask(1), 0b11111000);
        Due.is("slot 8 is in bank 1", memory.filterValue(1), 8);
        memory = Due.filled(32, 5);
        for (int bank = 0; bank < 4; bank++) {
            Due.is("eight keys, bank " + bank, memory.filterMask(bank), 0b11111000);
            Due.is("eight keys, bank " + bank, memory.filterValue(bank), 8 * bank);
        }
        memory.remove(24);
        memory.remove(25);
        memory.remove(26);
        memory.remove(27);
        Due.is("the last four", memory.filterMask(3), 0b11111100);
        Due.is("the last four", memory.filterValue(3), 28);
    }

    private static void hidden() {
        TernaryMatcher memory = new TernaryMatcher();
        int[] off = {-1, 32, Integer.MIN_VALUE, Integer.MAX_VALUE};
        for (int slot : off) {
            Due.is("hiddenBy(" + slot + ")", memory.hiddenBy(slot), TernaryMatcher.UNKNOWN);
        }
        Due.is("free", memory.hiddenBy(0), TernaryMatcher.NONE);
        memory.addRule(0b00000000, 0b10000000, 1, 0);
        memory.addRule(0b10000000, 0b10000000, 2, 0);
        memory.addRule(0b00000000, 0b00000000, 3, 0);
        memory.addRule(0b10000001, 0b10000001, 4, 0);
        memory.addRule(0b00000001, 0b10000001, 5, 0);
        memory.addRule(0b00000001, 0b00000001, 6, 0);
        memory.addRule(0b00000001, 0b00000001, 7, 0);
        int[] want = {-4, -4, -4, 1, 0, 2, 2};
        for (int slot = 0; slot < want.length; slot++) {
            Due.is("hiddenBy(" + slot + ")", memory.hiddenBy(slot), want[slot]);
        }
        Due.is("a free slot above", memory.hiddenBy(7), TernaryMatcher.NONE);
        memory.remove(2);
        Due.is("the other one that is the same", memory.hiddenBy(6), 5);
        Due.is("no single one", memory.hiddenBy(5), TernaryMatcher.NONE);
        Due.is("a slot that is free now", memory.hiddenBy(2), TernaryMatcher.NONE);
        memory = Due.filled(2, 5);
        Due.is("another value hides nothing", memory.hiddenBy(1), TernaryMatcher.NONE);
    }

    private static void keys() {
        TernaryMatcher memory = new TernaryMatcher();
        int[] off = {-1, 32, Integer.MIN_VALUE, Integer.MAX_VALUE};
        for (int slot : off) {
            Due.is("keysFor(" + slot + ")", memory.keysFor(slot), TernaryMatcher.UNKNOWN);
        }
        Due.is("free", memory.keysFor(0), 0);
        Due.is("free", memory.keysFor(31), 0);
        memory.addRule(0b00000001, 0b00000001, 1, 0);
        memory.addRule(0b10000000, 0b10000000, 2, 0);
        memory.addRule(0b11000000, 0b11000000, 3, 0);
        memory.addRule(0b00000000, 0b00000000, 4, 0);
        int[] want = {128, 64, 0, 64, 0};
        for (int slot = 0; slot < want.length; slot++) {
            Due.is("keysFor(" + slot + ")", memory.keysFor(slot), want[slot]);
        }
    }

    private static void movesThatWouldBe() {
        TernaryMatcher memory = new TernaryMatcher();
        int[] off = {-1, 100, Integer.MIN_VALUE, Integer.MAX_VALUE};
        for (int rank : off) {
            Due.is("wouldMove(" + rank + ")", memory.wouldMove(rank), TernaryMatcher.OUT_OF_RANGE);
        }
        Due.is("empty", memory.wouldMove(0), 0);
        Due.is("empty", memory.wouldMove(99), 0);
        for (int rank = 0; rank < 31; rank++) {
            memory.addRule(rank, 255, 10 + rank, 0);
        }
        for (int rank = 0; rank < 31; rank++) {
            Due.is("wouldMove(" + (10 + rank) + ")", memory.wouldMove(10 + rank), 30 - rank);
        }
        Due.is("all would move", memory.wouldMove(9), 31);
        Due.is("none would move", memory.wouldMove(99), 0);
        memory.remove(10);
        Due.is("into the gap", memory.wouldMove(19), 0);
        Due.is("into the gap", memory.wouldMove(20), 0);
        Due.is("down by one", memory.wouldMove(21), 1);
        Due.is("up by one", memory.wouldMove(18), 1);
        Due.is("nothing is moved", memory.total(4), 0);
        memory.addRule(0, 0, 99, 0);
        memory.addRule(0, 0, 20, 0);
        Due.is("full", memory.wouldMove(20), TernaryMatcher.FULL);
        Due.is("out of range before full", memory.wouldMove(100), TernaryMatcher.OUT_OF_RANGE);
    }

    private static void entriesOfRanges() {
        TernaryMatcher memory = Due.filled(32, 5);
        int[][] off = {{-1, 0}, {0, 256}, {1, 0}, {255, 0}, {256, 256}, {-5, -1},
            {Integer.MIN_VALUE, Integer.MAX_VALUE}, {Integer.MAX_VALUE, Integer.MAX_VALUE}};
        for (int[] a : off) {
            Due.is("entriesFor(" + a[0] + ", " + a[1] + ")", memory.entriesFor(a[0], a[1]), TernaryMatcher.OUT_OF_RANGE);
        }
        int[][] ranges = {{0, 0, 1}, {0, 1, 1}, {1, 2, 2}, {0, 2, 2}, {0, 255, 1}, {0, 254, 8}, {1, 255, 8},
            {1, 254, 14}, {128, 255, 1}, {127, 128, 2}, {64, 191, 2}, {5, 20, 5}, {255, 255, 1}, {3, 12, 4}};
        for (int[] a : ranges) {
            Due.is("entriesFor(" + a[0] + ", " + a[1] + ")", memory.entriesFor(a[0], a[1]), a[2]);
        }
    }

    private static void totals() {
        TernaryMatcher memory = new TernaryMatcher();
        memory.addRange(1, 6, 5, 1);
        memory.addRule(0, 0b11111000, 4, 2);
        memory.addRule(0, 255, 6, 3);
        memory.addRule(0, 255, 7, 3);
        memory.remove(3);
        memory.setPlacing(1);
        memory.search(3);
        memory.type('x');
        int[] want = {6, 3, 4, 1, 4, 1, 6, 5, 248, 4, 1};
        for (int what = 0; what < want.length; what++) {
            Due.is("total(" + what + ")", memory.total(what), want[what]);
        }
        int[] off = {-1, 11, Integer.MIN_VALUE, Integer.MAX_VALUE};
        for (int what : off) {
            Due.is("total(" + what + ")", memory.total(what), TernaryMatcher.OUT_OF_RANGE);
        }
        memory = Due.filled(32, 5);
        Due.is("each is found", memory.total(7), 0);
        Due.is("the other keys", memory.total(8), 224);
        memory = new TernaryMatcher();
        memory.addRule(0, 128, 1, 0);
        memory.addRule(128, 128, 1, 0);
        memory.addRule(0, 64, 1, 0);
        Due.is("hidden by several together", memory.total(7), 1);
        Due.is("both hide a part of it", memory.keysFor(2), 0);
        Due.is("half each", memory.keysFor(0), 128);
        Due.is("half each", memory.keysFor(1), 128);
        Due.is("no single entry hides it", memory.hiddenBy(2), TernaryMatcher.NONE);
        Due.is("every key finds one", memory.total(8), 0);
    }

    private static void nothingIsChanged() {
        TernaryMatcher memory = Due.filled(3, 5);
        memory.find(1);
        memory.power(1);
        memory.filterMask(0);
        memory.filterValue(0);
        memory.hiddenBy(1);
        memory.keysFor(1);
        memory.wouldMove(1);
        memory.entriesFor(1, 254);
        int[] want = {3, 3, 3, 0, 0, 0, 0, 0, 253, 3, 0};
        for (int what = 0; what < want.length; what++) {
            Due.is("still total(" + what + ")", memory.total(what), want[what]);
        }
    }
}
