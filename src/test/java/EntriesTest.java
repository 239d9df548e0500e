/** Promises 15 to 23: entries and rules. */
final class EntriesTest {
    private static final int[] OFF = {-1, 32, Integer.MIN_VALUE, Integer.MAX_VALUE};

    public static void main(String[] args) {
        slotsOffAndFree();
        entriesAreTold();
        sorts();
        slotsOfParts();
        rulesThatThereAreNot();
        rulesAreTold();
        Due.end("EntriesTest");
    }

    private static void slotsOffAndFree() {
        TernaryMatcher memory = Due.filled(32, 5);
        for (int slot : OFF) {
            Due.is("ruleIn(" + slot + ")", memory.ruleIn(slot), TernaryMatcher.UNKNOWN);
            Due.is("maskIn(" + slot + ")", memory.maskIn(slot), TernaryMatcher.UNKNOWN);
            Due.is("valueIn(" + slot + ")", memory.valueIn(slot), TernaryMatcher.UNKNOWN);
            Due.is("sortIn(" + slot + ")", memory.sortIn(slot), TernaryMatcher.UNKNOWN);
        }
        memory.remove(0);
        memory.remove(31);
        for (int slot = 0; slot < 32; slot += 31) {
            Due.is("free: ruleIn", memory.ruleIn(slot), TernaryMatcher.NONE);
            Due.is("free: maskIn", memory.maskIn(slot), TernaryMatcher.NONE);
            Due.is("free: valueIn", memory.valueIn(slot), TernaryMatcher.NONE);
            Due.is("free: sortIn", memory.sortIn(slot), TernaryMatcher.NONE);
        }
    }

    private static void entriesAreTold() {
        TernaryMatcher memory = new TernaryMatcher();
        memory.setPlacing(2);
        memory.addRule(0b11001100, 0b11110000, 5, 1);
        memory.addRange(3, 4, 4, 1);
        Due.is("rule in 31", memory.ruleIn(31), 0);
        Due.is("mask in 31", memory.maskIn(31), 0b11110000);
        Due.is("value in 31", memory.valueIn(31), 0b11000000);
        Due.is("rule in 30", memory.ruleIn(30), 1);
        Due.is("mask in 30", memory.maskIn(30), 255);
        Due.is("value in 29", memory.valueIn(29), 3);
        Due.is("value in 30", memory.valueIn(30), 4);
        memory.undo();
        memory.addRule(255, 0, 0, 0);
        Due.is("mask 0", memory.maskIn(30), 0);
        Due.is("value 0", memory.valueIn(30), 0);
    }

    private static void sorts() {
        int[] prefixes = {0, 128, 192, 224, 240, 248, 252, 254};
        for (int mask = 0; mask < 256; mask++) {
            int want = mask == 255 ? 0 : 2;
            for (int prefix : prefixes) {
                want = mask == prefix ? 1 : want;
            }
            TernaryMatcher memory = new TernaryMatcher();
            memory.addRule(170, mask, 5, 0);
            Due.is("sort of mask " + mask, memory.sortIn(0), want);
        }
    }

    private static void slotsOfParts() {
        TernaryMatcher memory = new TernaryMatcher();
        memory.setPlacing(2);
        memory.addRange(1, 6, 5, 0);
        int[] want = {28, 29, 30, 31};
        for (int part = 0; part < 4; part++) {
            Due.is("slotOf(0, " + part + ")", memory.slotOf(0, part), want[part]);
        }
        Due.is("no part 4", memory.slotOf(0, 4), TernaryMatcher.UNKNOWN);
        Due.is("no rule 1", memory.slotOf(1, 0), TernaryMatcher.UNKNOWN);
        for (int off : OFF) {
            Due.is("slotOf(0, " + off + ")", memory.slotOf(0, off), TernaryMatcher.UNKNOWN);
            Due.is("slotOf(" + off + ", 0)", memory.slotOf(off, 0), TernaryMatcher.UNKNOWN);
        }
        memory.remove(0);
        Due.is("removed", memory.slotOf(0, 0), TernaryMatcher.UNKNOWN);
    }

    private static void rulesThatThereAreNot() {
        TernaryMatcher memory = Due.filled(3, 5);
        memory.remove(1);
        int[] unknown = {1, 3, -1, -2, Integer.MIN_VALUE, Integer.MAX_VALUE};
        for (int rule : unknown) {
            Due.is("parts(" + rule + ")", memory.parts(rule), TernaryMatcher.UNKNOWN);
            Due.is("rank(" + rule + ")", memory.rank(rule), TernaryMatcher.UNKNOWN);
            Due.is("action(" + rule + ")", memory.action(rule), TernaryMatcher.UNKNOWN);
            Due.is("hits(" + rule + ")", memory.hits(rule), TernaryMatcher.UNKNOWN);
        }
    }

    private static void rulesAreTold() {
        TernaryMatcher memory = new TernaryMatcher();
        memory.addRange(1, 254, 42, 6);
        memory.addRule(0, 255, 0, 0);
        memory.addRule(255, 255, 99, 9);
        Due.is("parts(0)", memory.parts(0), 14);
        Due.is("parts(1)", memory.parts(1), 1);
        int[] ranks = {42, 0, 99};
        int[] actions = {6, 0, 9};
        for (int rule = 0; rule < 3; rule++) {
            Due.is("rank(" + rule + ")", memory.rank(rule), ranks[rule]);
            Due.is("action(" + rule + ")", memory.action(rule), actions[rule]);
        }
        for (int key = 0; key < 6; key++) {
            memory.search(key);
        }
        Due.is("hits of all parts", memory.hits(0), 5);
        Due.is("hits", memory.hits(1), 1);
        Due.is("no hits", memory.hits(2), 0);
        memory.find(255);
        Due.is("find is no hit", memory.hits(2), 0);
        memory.spread();
        Due.is("hits move along", memory.hits(0), 5);
        Due.is("rank moves along", memory.rank(0), 42);
        memory.remove(1);
        Due.is("a new rule has no hits", memory.hits(memory.addRule(0, 255, 0, 3)), 0);
    }
}
