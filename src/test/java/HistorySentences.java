import java.util.LinkedHashMap;
import java.util.Map;
import java.util.function.ToIntFunction;

/** The sentences of HISTORY, and the promises 12 to 14. */
final class HistorySentences extends Sentences {
    private static final String PART = "HISTORY";
    private static final String UNDO = "Promise 12";
    private static final String KEEP = "Promise 13";
    private static final String RESTORE = "Promise 14";

    /** Three states, a snapshot, a text of one rule, and gaps, so that each change finds something to do. */
    private static TernaryMatcher start() {
        TernaryMatcher memory = typed("00001***,7,8");
        memory.keep();
        memory.setPlacing(2);
        memory.addRule(9, 255, 40, 3);
        memory.addRange(1, 6, 50, 2);
        return memory;
    }

    private static Map<String, ToIntFunction<TernaryMatcher>> changes() {
        Map<String, ToIntFunction<TernaryMatcher>> changes = new LinkedHashMap<>();
        changes.put("addRule", memory -> memory.addRule(5, 255, 45, 1));
        changes.put("addRange", memory -> memory.addRange(1, 254, 45, 1));
        changes.put("remove", memory -> memory.remove(1));
        changes.put("setPlacing", memory -> memory.setPlacing(1));
        changes.put("compact", TernaryMatcher::compact);
        changes.put("spread", TernaryMatcher::spread);
        changes.put("search", memory -> memory.search(9));
        changes.put("addText", TernaryMatcher::addText);
        changes.put("restore", TernaryMatcher::restore);
        return changes;
    }

    @Says(in = PART, words = "A history of at most 4 states is kept.")
    static void atMost4States() {
        for (int changes = 0; changes <= 9; changes++) {
            TernaryMatcher memory = filled(changes, 5);
            int kept = Math.min(changes, 4);
            is("states after " + changes + " changes", memory.total(STATES), kept);
            for (int left = kept - 1; left >= 0; left--) {
                is("undo after " + changes + " changes", memory.undo(), left);
            }
            is("one undo more", memory.undo(), NONE);
        }
    }

    @Says(in = PART, words = "Each call of a method that is described as a change,")
    static void whatIsNoChangeIsNotRecorded() {
        TernaryMatcher memory = worked();
        memory.undo();
        memory.undo();
        int[] answers = {
            memory.type('x'), memory.clearText(), memory.keep(), memory.ruleIn(1), memory.maskIn(1), memory.valueIn(1),
            memory.sortIn(1), memory.slotOf(1, 0), memory.parts(1), memory.rank(1), memory.action(1), memory.hits(1),
            memory.find(1), memory.power(1), memory.filterMask(0), memory.filterValue(0), memory.hiddenBy(1),
            memory.keysFor(1), memory.wouldMove(1), memory.entriesFor(1, 6), memory.total(0)
        };
        for (int i = 0; i < answers.length; i++) {
            Due.holds("call " + i + " is no error", answers[i] >= 0 || answers[i] == NONE);
        }
        is("states", memory.total(STATES), 2);
        is("undo is none either", memory.undo(), 1);
    }

    @Says(in = PART, words = "and that returns neither an error nor NONE, records the state before it;")
    static void eachChangeIsRecorded() {
        for (Map.Entry<String, ToIntFunction<TernaryMatcher>> change : changes().entrySet()) {
            TernaryMatcher memory = start();
            String before = state(memory);
            int answer = change.getValue().applyAsInt(memory);
            Due.holds(change.getKey() + " is made: " + answer, answer >= 0);
            is(change.getKey() + ": states", memory.total(STATES), 4);
            Due.holds(change.getKey() + " changes the state", !state(memory).equals(before));
            memory.undo();
            same("undo of " + change.getKey(), state(memory), before);
        }
    }

    @Says(in = PART, words = "if there are 4 already, the oldest one is dropped.")
    static void theOldestIsDropped() {
        TernaryMatcher memory = filled(5, 5);
        for (int entries = 4; entries >= 1; entries--) {
            memory.undo();
            is("entries", memory.total(ENTRIES), entries);
        }
        is("the state without entries was dropped", memory.undo(), NONE);
        is("entries", memory.total(ENTRIES), 1);
        memory = filled(4, 5);
        for (int entries = 3; entries >= 0; entries--) {
            memory.undo();
            is("none of four is dropped: entries", memory.total(ENTRIES), entries);
        }
    }

    @Says(in = PART, words = "if there are 4 already, the oldest one is dropped.")
    static void undoMakesRoomForAState() {
        TernaryMatcher memory = filled(7, 5);
        memory.undo();
        memory.undo();
        memory.addRule(100, 255, 5, 0);
        memory.addRule(101, 255, 5, 0);
        is("states", memory.total(STATES), 4);
        memory.addRule(102, 255, 5, 0);
        is("states", memory.total(STATES), 4);
        for (int entries = 7; entries >= 4; entries--) {
            memory.undo();
            is("entries", memory.total(ENTRIES), entries);
        }
        is("no more", memory.undo(), NONE);
        is("a key of the time before", memory.find(3), 3);
        is("a key of what is undone", memory.find(100), NONE);
    }

    @Says(in = PART, words = "There is one snapshot, empty at first.")
    static void oneSnapshot() {
        TernaryMatcher memory = new TernaryMatcher();
        is("at first", memory.restore(), NONE);
        memory.addRule(1, 255, 5, 0);
        is("a change takes none", memory.restore(), NONE);
        memory.keep();
        memory.addRule(2, 255, 5, 0);
        memory.keep();
        memory.remove(0);
        memory.remove(1);
        is("the later one", memory.restore(), 2);
        is("there is no other one", memory.restore(), 2);
    }

    @Says(in = PART, words = "The state is everything except the text, the history and the snapshot.")
    static void theStateIsEverythingElse() {
        TernaryMatcher memory = worked();
        String before = state(memory);
        memory.keep();
        memory.addRange(1, 254, 55, 9);
        memory.search(200);
        memory.setPlacing(2);
        memory.spread();
        for (int left = 3; left >= 0; left--) {
            is("undo", memory.undo(), left);
        }
        same("after four undos", state(memory), before);
        memory.remove(1);
        memory.remove(2);
        memory.search(9);
        memory.compact();
        memory.setPlacing(0);
        memory.addRule(0, 0, 0, 0);
        memory.restore();
        same("after restore", state(memory), before);
    }

    @Says(in = PART, words = "The state is everything except the text, the history and the snapshot.")
    static void theTextIsNoPartOfIt() {
        TernaryMatcher memory = typed("00000000,5,1");
        memory.addRule(1, 255, 5, 0);
        memory.keep();
        type(memory, ";11111111,5,2");
        memory.undo();
        is("length after undo", memory.total(TEXT_LENGTH), 25);
        memory.restore();
        is("length after restore", memory.total(TEXT_LENGTH), 25);
        is("both rules", memory.addText(), 2);
        memory.clearText();
        memory.undo();
        is("length after undo", memory.total(TEXT_LENGTH), 0);
        memory.restore();
        is("length after restore", memory.total(TEXT_LENGTH), 0);
    }

    @Says(in = PART, words = "The state is everything except the text, the history and the snapshot.")
    static void theHistoryIsNoPartOfIt() {
        TernaryMatcher memory = filled(1, 5);
        memory.keep();
        memory.addRule(1, 255, 5, 0);
        memory.addRule(2, 255, 5, 0);
        memory.restore();
        is("the states are still there, and one more", memory.total(STATES), 4);
        for (int left = 3; left >= 0; left--) {
            is("undo", memory.undo(), left);
            is("entries", memory.total(ENTRIES), left);
        }
    }

    @Says(in = PART, words = "The state is everything except the text, the history and the snapshot.")
    static void theSnapshotIsNoPartOfIt() {
        TernaryMatcher memory = filled(2, 5);
        memory.keep();
        memory.addRule(2, 255, 5, 0);
        memory.keep();
        memory.undo();
        memory.undo();
        is("undo leaves the later snapshot", memory.restore(), 3);
        memory = filled(1, 5);
        memory.keep();
        memory.undo();
        is("and does not take it away", memory.restore(), 1);
    }

    // ---- undo

    @Says(in = UNDO, words = "Restores the latest state of the history, and removes it from there.")
    static void undoTakesTheLatest() {
        TernaryMatcher memory = new TernaryMatcher();
        memory.addRule(1, 255, 5, 0);
        memory.setPlacing(2);
        memory.addRule(2, 255, 5, 0);
        memory.undo();
        is("only the latest: entries", memory.total(ENTRIES), 1);
        is("only the latest: placing", memory.total(PLACING), 2);
        memory.undo();
        is("then the one before", memory.total(PLACING), 0);
        is("entries", memory.total(ENTRIES), 1);
        memory.addRule(3, 255, 4, 0);
        memory.undo();
        is("a state is taken once", memory.total(ENTRIES), 1);
        is("slot", memory.slotOf(0, 0), 0);
        memory.undo();
        is("the first state", memory.total(ENTRIES), 0);
    }

    @Says(in = UNDO, words = "Returns how many states are left; NONE if the history is empty.")
    static void undoAnswers() {
        is("at first", new TernaryMatcher().undo(), NONE);
        TernaryMatcher memory = filled(20, 5);
        for (int left = 3; left >= 0; left--) {
            is("undo", memory.undo(), left);
            is("states", memory.total(STATES), left);
        }
        is("empty", memory.undo(), NONE);
        is("still empty", memory.undo(), NONE);
        is("nothing is undone then", memory.total(ENTRIES), 16);
        memory.search(0);
        is("one state again", memory.undo(), 0);
        is("empty", memory.undo(), NONE);
    }

    // ---- keep

    @Says(in = KEEP, words = "Takes a snapshot of the state, in place of an earlier one.")
    static void keepTakesTheState() {
        TernaryMatcher memory = worked();
        String kept = state(memory);
        memory.keep();
        same("keep changes nothing", state(memory), kept);
        memory.remove(1);
        memory.search(9);
        memory.spread();
        memory.restore();
        same("the snapshot of this time, not the earlier one", state(memory), kept);
    }

    @Says(in = KEEP, words = "Returns how many entries there are.")
    static void keepAnswers() {
        is("none", new TernaryMatcher().keep(), 0);
        is("all", filled(32, 5).keep(), 32);
        TernaryMatcher memory = new TernaryMatcher();
        memory.addRange(1, 6, 5, 0);
        is("entries, not rules", memory.keep(), 4);
        memory.remove(0);
        is("none is left", memory.keep(), 0);
        is("keep is no change", memory.total(STATES), 2);
        is("the snapshot without entries", memory.restore(), 0);
    }

    // ---- restore

    @Says(in = RESTORE, words = "Restores the state of the snapshot, which stays.")
    static void theSnapshotStays() {
        TernaryMatcher memory = worked();
        memory.keep();
        String kept = state(memory);
        for (int time = 0; time < 2; time++) {
            memory.search(9);
            memory.compact();
            memory.addRule(time, 255, 0, 0);
            memory.restore();
            same("time " + time, state(memory), kept);
        }
    }

    @Says(in = RESTORE, words = "This is a change.")
    static void restoreIsAChange() {
        TernaryMatcher memory = filled(1, 5);
        memory.keep();
        memory.addRule(7, 255, 5, 0);
        String before = state(memory);
        memory.restore();
        is("states", memory.total(STATES), 3);
        is("undo", memory.undo(), 2);
        same("it is undone", state(memory), before);
        memory = filled(1, 5);
        memory.keep();
        is("though nothing differs", memory.restore(), 1);
        is("it is recorded", memory.total(STATES), 2);
    }

    @Says(in = RESTORE, words = "Returns how many entries there are then; NONE if there is no snapshot.")
    static void restoreAnswers() {
        TernaryMatcher memory = filled(3, 5);
        is("no snapshot", memory.restore(), NONE);
        is("nothing is restored", memory.total(ENTRIES), 3);
        is("nothing is recorded", memory.total(STATES), 3);
        memory.keep();
        memory.remove(0);
        is("three entries then", memory.restore(), 3);
        memory.addRange(1, 254, 5, 0);
        is("three entries then", memory.restore(), 3);
        memory = new TernaryMatcher();
        memory.keep();
        memory.addRule(0, 0, 0, 0);
        is("no entries then", memory.restore(), 0);
    }
}
