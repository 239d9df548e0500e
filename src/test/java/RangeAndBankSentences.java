/** The sentences of RANGES and BANKS. */
final class RangeAndBankSentences extends Sentences {
    private static final String RANGES = "RANGES";
    private static final String BANKS = "BANKS";

    /** Adds a range to a new object; its entries must begin at the given keys, and end ahead of the next one. */
    private static void blocks(int low, int high, int... firstKeys) {
        TernaryMatcher memory = new TernaryMatcher();
        String range = "(" + low + ", " + high + ") ";
        is("addRange" + range, memory.addRange(low, high, 5, 0), 0);
        is("parts" + range, memory.parts(0), firstKeys.length);
        is("entriesFor" + range, memory.entriesFor(low, high), firstKeys.length);
        for (int part = 0; part < firstKeys.length; part++) {
            int next = part + 1 < firstKeys.length ? firstKeys[part + 1] : high + 1;
            is(range + "value of part " + part, memory.valueIn(part), firstKeys[part]);
            is(range + "mask of part " + part, memory.maskIn(part), 256 - (next - firstKeys[part]));
        }
    }

    @Says(in = RANGES, words = "A range from low to high is expanded to prefixes (or exact entries):")
    static void prefixesOrExactEntries() {
        for (int low = 0; low < 256; low += 5) {
            for (int high = low; high < 256; high += 3) {
                TernaryMatcher memory = new TernaryMatcher();
                memory.addRange(low, high, 5, 0);
                for (int part = 0; part < memory.parts(0); part++) {
                    int mask = memory.maskIn(part);
                    is("sort of the mask " + mask, memory.sortIn(part), mask == 255 ? 0 : 1);
                }
            }
        }
        for (int key = 0; key < 256; key++) {
            blocks(key, key, key);
        }
    }

    @Says(in = RANGES, words = "beginning with low,")
    static void beginningWithLow() {
        for (int low = 0; low < 256; low++) {
            TernaryMatcher memory = new TernaryMatcher();
            memory.addRange(low, 255, 5, 0);
            is("the first value of " + low + " to 255", memory.valueIn(memory.slotOf(0, 0)), low);
            is("the key below is not in it", memory.find(Math.max(low - 1, 0)), low == 0 ? 0 : NONE);
        }
    }

    @Says(in = RANGES, words = "each time the largest block of keys is taken that begins there,")
    static void theLargestBlock() {
        blocks(0, 255, 0);
        blocks(0, 127, 0);
        blocks(128, 255, 128);
        blocks(64, 127, 64);
        blocks(8, 15, 8);
        blocks(2, 3, 2);
        blocks(0, 191, 0, 128);
        blocks(64, 255, 64, 128);
    }

    @Says(in = RANGES, words = "does not go beyond high,")
    static void notBeyondHigh() {
        blocks(0, 254, 0, 128, 192, 224, 240, 248, 252, 254);
        blocks(8, 14, 8, 12, 14);
        blocks(0, 126, 0, 64, 96, 112, 120, 124, 126);
        blocks(0, 2, 0, 2);
        blocks(128, 254, 128, 192, 224, 240, 248, 252, 254);
    }

    @Says(in = RANGES, words = "and consists of all the keys that have the same highest bits (so a block of 2, 4, .. keys begins with a multiple of 2, 4, ..),")
    static void beginsWithAMultiple() {
        blocks(1, 2, 1, 2);
        blocks(2, 5, 2, 4);
        blocks(4, 11, 4, 8);
        blocks(1, 8, 1, 2, 4, 8);
        blocks(127, 128, 127, 128);
        blocks(64, 191, 64, 128);
        blocks(1, 255, 1, 2, 4, 8, 16, 32, 64, 128);
        blocks(1, 254, 1, 2, 4, 8, 16, 32, 64, 128, 192, 224, 240, 248, 252, 254);
    }

    @Says(in = RANGES, words = "until high is reached.")
    static void untilHighIsReached() {
        for (int low = 0; low < 256; low++) {
            for (int high = low; high < 256; high++) {
                TernaryMatcher memory = new TernaryMatcher();
                memory.addRange(low, high, 5, 0);
                int last = memory.parts(0) - 1;
                int end = memory.valueIn(last) | 255 - memory.maskIn(last);
                is("the last key of " + low + " to " + high, end, high);
                is("keys that " + low + " to " + high + " leaves", memory.total(LOST_KEYS), 255 - (high - low));
            }
        }
    }

    @Says(in = RANGES, words = "Each block is one entry; they are inserted in this order.")
    static void insertedInThisOrder() {
        TernaryMatcher memory = withGaps(16, 12, 19, 22, 25);
        is("range", memory.addRange(1, 6, 10, 0), 32);
        // Each entry goes its own way: 1 moves up (a tie), 2 down, 4 and 6 up.
        holds(memory, 11, 11, 13, 14, 15, 32, 32, 32, 32, 16, 17, 18, 20, 21, 23, 24, 26);
        int[] keys = {1, 2, 4, 6};
        for (int part = 0; part < 4; part++) {
            is("slot of part " + part, memory.slotOf(32, part), 15 + part);
            is("value of part " + part, memory.valueIn(15 + part), keys[part]);
        }
        is("moved", memory.total(MOVED), 3 + 4 + 5 + 7);
        memory = new TernaryMatcher();
        memory.setPlacing(1);
        memory.addRange(1, 6, 5, 0);
        int[] slots = {15, 23, 27, 29};
        for (int part = 0; part < 4; part++) {
            is("placed by the rule 1: part " + part, memory.slotOf(0, part), slots[part]);
        }
    }

    /** The filter of the bank 0 with these entries, all of one rank. */
    private static void filter(String mask, String value, String... entries) {
        TernaryMatcher memory = new TernaryMatcher();
        for (String entry : entries) {
            memory.clearText();
            type(memory, entry + ",5,0");
            memory.addText();
        }
        String what = " of " + String.join(" ", entries);
        is("filterMask(0)" + what, memory.filterMask(0), Integer.parseInt(mask, 2));
        is("filterValue(0)" + what, memory.filterValue(0), Integer.parseInt(value, 2));
    }

    @Says(in = BANKS, words = "The filter of a bank is a mask and a value: the mask has the bits that are 1 in the masks of all its entries")
    static void bitsOfAllMasks() {
        filter("11110000", "00000000", "0000****");
        filter("11000000", "00000000", "0000****", "00**00**");
        filter("00000000", "00000000", "0000****", "00**00**", "****0000");
        filter("00000000", "00000000", "11111111", "********");
        filter("00000001", "00000001", "11111111", "*******1");
    }

    @Says(in = BANKS, words = "and in which all its entries have the same value;")
    static void bitsOfTheSameValue() {
        filter("11111110", "00000000", "00000000", "00000001");
        filter("11111100", "00000000", "00000000", "00000001", "00000010");
        filter("01111111", "01111111", "11111111", "01111111");
        filter("00000000", "00000000", "01010101", "10101010");
        filter("11111100", "10101000", "10101000", "10101010", "10101001", "10101011", "10101000");
        filter("11111000", "00000000", "00000000", "00000001", "00000010", "00000011", "00000100", "00000101",
                "00000110", "00000111");
    }

    @Says(in = BANKS, words = "the value has their value in these bits, and 0 in all other ones.")
    static void valueOfTheFilter() {
        filter("11111111", "11111111", "11111111");
        filter("11111111", "10100101", "10100101", "10100101");
        filter("11110001", "10100001", "10101111", "1010***1");
        filter("00001111", "00001010", "11111010", "00001010");
        filter("10000000", "10000000", "1*******", "11111111");
    }

    @Says(in = BANKS, words = "The filter of a bank without entries does not match any key (its mask and value are told as 0).")
    static void aBankWithoutEntries() {
        TernaryMatcher memory = new TernaryMatcher();
        for (int key = 0; key < 256; key++) {
            is("the empty memory: power(" + key + ")", memory.power(key), 0);
        }
        memory = with(9, 5, 31, 6);
        memory.remove(9);
        for (int bank = 0; bank < 3; bank++) {
            is("filterMask(" + bank + ")", memory.filterMask(bank), 0);
            is("filterValue(" + bank + ")", memory.filterValue(bank), 0);
        }
        is("a key of the bank 3", memory.power(31), 1);
        is("a key that only a removed entry matched", memory.power(9), 0);
        is("the key 0", memory.power(0), 0);
        memory.addRule(0, 0, 6, 0);
        memory.remove(31);
        is("a mask of 0 in a bank with an entry matches all", memory.power(0), 1);
        is("a mask of 0 in a bank with an entry matches all", memory.power(255), 1);
    }

    @Says(in = BANKS, words = "A bank takes part in the search of a key if its filter matches the key.")
    static void banksThatTakePart() {
        // One entry in each bank: 5, 9, 21, and 24 to 31.
        TernaryMatcher memory = with(5, 1, 9, 2, 21, 3, 24, 4, 31, 5);
        for (int key = 0; key < 256; key++) {
            boolean exact = key == 5 || key == 9 || key == 21;
            int want = exact ? 1 : key >= 24 && key <= 31 ? 2 : 0;
            is("power(" + key + ")", memory.power(key), want);
        }
        is("a bank may take part in vain", memory.find(27), NONE);
    }

    @Says(in = BANKS, words = "The power of the search is the number of entries in all banks that take part.")
    static void entriesOfAllBanksThatTakePart() {
        TernaryMatcher memory = filled(32, 5);
        is("the bank 0", memory.power(0), 8);
        is("the bank 3", memory.power(31), 8);
        is("no bank", memory.power(32), 0);
        memory.remove(3);
        is("the bank 0 without an entry, for its key", memory.power(3), 7);
        memory.addRule(0, 0, 4, 0);
        is("the bank 0 for all keys", memory.power(200), 8);
        is("the bank 0 and the bank 3", memory.power(31), 16);
        memory = new TernaryMatcher();
        for (int i = 0; i < 32; i++) {
            memory.addRule(0, 0, 5, 0);
        }
        is("all banks", memory.power(77), 32);
        is("the search counts it", memory.search(77), 0);
        is("powers", memory.total(POWERS), 32);
    }
}
