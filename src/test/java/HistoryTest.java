/** Promises 12 to 14: undo, and the snapshot. */
final class HistoryTest {
    public static void main(String[] args) {
        undoOfEachChange();
        onlyFourStates();
        whatIsNotRecorded();
        undoTakesAllBack();
        undoBringsBackWholeEntries();
        keeping();
        restoring();
        restoreIsAChange();
        Due.end("HistoryTest");
    }

    private static void undoOfEachChange() {
        TernaryMatcher memory = new TernaryMatcher();
        Due.is("nothing to undo", memory.undo(), TernaryMatcher.NONE);
        memory.addRule(1, 255, 5, 1);
        Due.is("states", memory.total(9), 1);
        Due.is("undo addRule", memory.undo(), 0);
        Due.is("entries", memory.total(0), 0);
        memory.addRange(1, 6, 5, 2);
        Due.is("undo addRange", memory.undo(), 0);
        Due.is("entries", memory.total(0), 0);
        memory.addRule(1, 255, 5, 1);
        memory.remove(0);
        Due.is("undo remove", memory.undo(), 1);
        Due.is("it is back", memory.slotOf(0, 0), 0);
        memory.search(1);
        Due.is("undo search", memory.undo(), 1);
        Due.is("hits", memory.hits(0), 0);
        memory.setPlacing(2);
        memory.addRule(2, 255, 5, 2);
        memory.spread();
        Due.is("undo spread", memory.undo(), 3);
        Due.is("where it was", memory.slotOf(1, 0), 31);
        memory.compact();
        Due.is("undo compact", memory.undo(), 3);
        Due.is("where it was", memory.slotOf(1, 0), 31);
        Due.is("undo addRule", memory.undo(), 2);
        Due.is("undo setPlacing", memory.undo(), 1);
        Due.is("placing", memory.total(3), 0);
    }

    private static void onlyFourStates() {
        TernaryMatcher memory = Due.filled(11, 5);
        Due.is("four are kept", memory.total(9), 4);
        for (int left = 3; left >= 0; left--) {
            Due.is("undo", memory.undo(), left);
            Due.is("entries", memory.total(0), 7 + left);
        }
        Due.is("no more", memory.undo(), TernaryMatcher.NONE);
        Due.is("entries", memory.total(0), 7);
        for (int i = 0; i < 3; i++) {
            memory.addRule(50 + i, 255, 5, 0);
        }
        Due.is("states", memory.total(9), 3);
        memory.undo();
        memory.addRule(60, 255, 5, 0);
        memory.addRule(61, 255, 5, 0);
        memory.addRule(62, 255, 5, 0);
        Due.is("states", memory.total(9), 4);
        for (int left = 3; left >= 0; left--) {
            Due.is("undo", memory.undo(), left);
            Due.is("entries", memory.total(0), 8 + left);
        }
    }

    private static void whatIsNotRecorded() {
        TernaryMatcher memory = Due.filled(1, 5);
        memory.type('0');
        memory.addText();
        memory.clearText();
        memory.keep();
        memory.search(200);
        memory.search(-1);
        memory.compact();
        memory.spread();
        memory.setPlacing(0);
        memory.setPlacing(7);
        memory.remove(9);
        memory.addRule(0, 0, 0, -1);
        memory.addRange(0, 0, 0, -1);
        memory.find(0);
        memory.power(0);
        memory.wouldMove(0);
        for (int what = 0; what <= 10; what++) {
            memory.total(what);
        }
        Due.is("only addRule was recorded", memory.total(9), 1);
    }

    private static void undoTakesAllBack() {
        TernaryMatcher memory = new TernaryMatcher();
        memory.addRule(1, 255, 5, 1);
        Due.is("rule", memory.addRule(2, 255, 4, 1), 1);
        memory.search(1);
        memory.undo();
        memory.undo();
        Due.is("rules added so far", memory.total(2), 1);
        Due.is("moved so far", memory.total(4), 0);
        Due.is("searches", memory.total(5), 0);
        Due.is("powers", memory.total(6), 0);
        Due.is("the state was that before rule 1", memory.addRule(3, 255, 4, 1), 1);
    }

    private static void undoBringsBackWholeEntries() {
        TernaryMatcher memory = new TernaryMatcher();
        memory.addRange(2, 4, 50, 3);
        memory.search(4);
        memory.remove(0);
        memory.addRule(0b10100101, 0b10101010, 60, 9);
        memory.addRule(0b01000000, 0b01010101, 70, 8);
        memory.undo();
        memory.undo();
        Due.is("undo remove", memory.undo(), 1);
        for (int part = 0; part < 2; part++) {
            Due.is("slot of part " + part, memory.slotOf(0, part), part);
            Due.is("rule in slot " + part, memory.ruleIn(part), 0);
            Due.is("mask in slot " + part, memory.maskIn(part), 254 + part);
            Due.is("value in slot " + part, memory.valueIn(part), 2 + 2 * part);
        }
        Due.is("rank", memory.rank(0), 50);
        Due.is("action", memory.action(0), 3);
        Due.is("hits", memory.hits(0), 1);
        Due.is("entries", memory.total(0), 2);
    }

    private static void keeping() {
        TernaryMatcher memory = new TernaryMatcher();
        Due.is("no entries", memory.keep(), 0);
        memory.addRange(1, 6, 5, 0);
        Due.is("entries", memory.keep(), 4);
        Due.is("keep is no change", memory.total(9), 1);
        memory.remove(0);
        Due.is("the later snapshot", memory.restore(), 4);
        Due.is("parts", memory.parts(0), 4);
    }

    private static void restoring() {
        TernaryMatcher memory = new TernaryMatcher();
        Due.is("no snapshot", memory.restore(), TernaryMatcher.NONE);
        Due.is("not recorded", memory.total(9), 0);
        memory.addRule(1, 255, 5, 7);
        memory.addRule(2, 240, 3, 8);
        memory.search(1);
        memory.setPlacing(1);
        memory.keep();
        memory.type('1');
        memory.remove(0);
        memory.setPlacing(2);
        memory.addRule(9, 255, 9, 9);
        memory.search(9);
        Due.is("restored", memory.restore(), 2);
        Due.is("rule 0 is back", memory.slotOf(0, 0), 1);
        Due.is("rank", memory.rank(0), 5);
        Due.is("action", memory.action(0), 7);
        Due.is("hits", memory.hits(1), 1);
        Due.is("mask", memory.maskIn(0), 240);
        Due.is("value", memory.valueIn(0), 0);
        Due.is("rule 2 is gone", memory.rank(2), TernaryMatcher.UNKNOWN);
        Due.is("rules added", memory.total(2), 2);
        Due.is("placing", memory.total(3), 1);
        Due.is("moved", memory.total(4), 1);
        Due.is("searches", memory.total(5), 1);
        Due.is("powers", memory.total(6), 2);
        Due.is("the text is no part of it", memory.total(10), 1);
        memory.remove(1);
        Due.is("the snapshot stays", memory.restore(), 2);
        memory.search(1);
        Due.is("the snapshot is not touched", memory.restore(), 2);
        Due.is("hits", memory.hits(1), 1);
    }

    private static void restoreIsAChange() {
        TernaryMatcher memory = new TernaryMatcher();
        memory.keep();
        Due.is("no entries", memory.restore(), 0);
        Due.is("recorded, though nothing differs", memory.total(9), 1);
        memory.addRule(1, 255, 5, 0);
        Due.is("no entries", memory.restore(), 0);
        Due.is("states", memory.total(9), 3);
        Due.is("undo restore", memory.undo(), 2);
        Due.is("the rule is back", memory.find(1), 0);
        memory.undo();
        memory.undo();
        Due.is("undo leaves the snapshot", memory.restore(), 0);
    }
}
