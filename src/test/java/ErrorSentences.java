import java.util.function.Supplier;
import java.util.function.ToIntFunction;

/** The sentences of ERRORS. */
final class ErrorSentences extends Sentences {
    private static final String PART = "ERRORS";
    private static final int VIEWS = 8;

    private static TernaryMatcher empty() {
        return new TernaryMatcher();
    }

    /** No slot is free; there are a snapshot, four states, hits, and a text of one rule. */
    private static TernaryMatcher full() {
        TernaryMatcher memory = withGaps(16);
        memory.search(3);
        memory.keep();
        memory.search(4);
        type(memory, "1111****,50,8");
        return memory;
    }

    /** 60 characters, the last of which is allowed at its place. */
    private static TernaryMatcher withFullText() {
        TernaryMatcher memory = worked();
        memory.clearText();
        type(memory, "00000000,1,2;00000001,1,2;00000010,1,2;00000011,1,2;00000000");
        return memory;
    }

    private static TernaryMatcher withFault() {
        return after(worked(), memory -> memory.type(';'));
    }

    /** What is seen of an object at once, after up to five undos, after restore(), and after addText(). */
    private static String view(TernaryMatcher memory, int view) {
        int answer = 0;
        for (int undos = 0; view <= 5 && undos < view; undos++) {
            answer = memory.undo();
        }
        if (view == 6) {
            answer = memory.restore();
        } else if (view == 7) {
            answer = memory.addText();
        }
        return whole(memory) + "\nanswered " + answer;
    }

    /** A call that is refused leaves an object that is, and goes on, as one on which it was not made. */
    private static void refused(String name, Supplier<TernaryMatcher> start, int want, ToIntFunction<TernaryMatcher> call) {
        for (int view = 0; view < VIEWS; view++) {
            TernaryMatcher called = start.get();
            is(name, call.applyAsInt(called), want);
            same(name + ": view " + view, view(called, view), view(start.get(), view));
        }
    }

    @Says(in = PART, words = "Errors are reported by the constants below.")
    static void constantsReportErrors() {
        is("no such rule", empty().remove(0), TernaryMatcher.UNKNOWN);
        is("out of range", empty().addRule(256, 0, 0, 0), TernaryMatcher.OUT_OF_RANGE);
        is("full", full().addRule(0, 0, 0, 0), TernaryMatcher.FULL);
        is("none", empty().find(0), TernaryMatcher.NONE);
    }

    @Says(in = PART, words = "If several errors apply, the one that stands first in the @return line is returned.")
    static void outOfRangeBeforeFull() {
        is("addRule: value", full().addRule(-1, 0, 0, 0), OUT_OF_RANGE);
        is("addRule: mask", full().addRule(0, 256, 0, 0), OUT_OF_RANGE);
        is("addRule: rank", full().addRule(0, 0, -1, 0), OUT_OF_RANGE);
        is("addRule: action", full().addRule(0, 0, 0, 10), OUT_OF_RANGE);
        is("addRule: all of them", full().addRule(-1, -1, -1, -1), OUT_OF_RANGE);
        is("addRange: low", full().addRange(-1, 5, 0, 0), OUT_OF_RANGE);
        is("addRange: high", full().addRange(5, 256, 0, 0), OUT_OF_RANGE);
        is("addRange: high below low", full().addRange(5, 4, 0, 0), OUT_OF_RANGE);
        is("addRange: rank", full().addRange(1, 254, 100, 0), OUT_OF_RANGE);
        is("addRange: action", full().addRange(1, 254, 0, -1), OUT_OF_RANGE);
        is("addRange: all of them", full().addRange(256, -1, -1, -1), OUT_OF_RANGE);
        is("wouldMove: -1", full().wouldMove(-1), OUT_OF_RANGE);
        is("wouldMove: 100", full().wouldMove(100), OUT_OF_RANGE);
    }

    @Says(in = PART, words = "If several errors apply, the one that stands first in the @return line is returned.")
    static void theFaultBeforeFull() {
        TernaryMatcher memory = full();
        is("no fault", memory.addText(), FULL);
        memory.type(';');
        is("the text ends too early", memory.addText(), -114);
        memory.type('x');
        is("a character that is not allowed", memory.addText(), -114);
        memory.clearText();
        is("the empty text", memory.addText(), -100);
    }

    @Says(in = PART, words = "If several errors apply, the one that stands first in the @return line is returned.")
    static void neitherRuleNorPart() {
        is("slotOf(0, 0)", empty().slotOf(0, 0), UNKNOWN);
        is("slotOf(-1, -1)", worked().slotOf(-1, -1), UNKNOWN);
        is("slotOf(99, 99)", worked().slotOf(99, 99), UNKNOWN);
        is("slotOf(1, 4)", worked().slotOf(1, 4), UNKNOWN);
    }

    @Says(in = PART, words = "NONE is not an error; it is returned only if no error applies.")
    static void noneAfterAllErrors() {
        int[] outside = {-1, -4, 256, Integer.MIN_VALUE, Integer.MAX_VALUE};
        for (int number : outside) {
            is("search of an empty memory: " + number, empty().search(number), OUT_OF_RANGE);
            is("find in an empty memory: " + number, empty().find(number), OUT_OF_RANGE);
            is("setPlacing: " + number, empty().setPlacing(number), OUT_OF_RANGE);
            is("ruleIn of an empty memory: " + number, empty().ruleIn(number), UNKNOWN);
            is("maskIn of an empty memory: " + number, empty().maskIn(number), UNKNOWN);
            is("valueIn of an empty memory: " + number, empty().valueIn(number), UNKNOWN);
            is("sortIn of an empty memory: " + number, empty().sortIn(number), UNKNOWN);
            is("hiddenBy of an empty memory: " + number, empty().hiddenBy(number), UNKNOWN);
        }
    }

    @Says(in = PART, words = "A method that returns an error or NONE changes nothing.")
    static void addRuleAndAddRangeRefused() {
        refused("addRule: value", ErrorSentences::empty, OUT_OF_RANGE, memory -> memory.addRule(256, 0, 0, 0));
        refused("addRule: mask", ErrorSentences::empty, OUT_OF_RANGE, memory -> memory.addRule(0, -1, 0, 0));
        refused("addRule: rank", Sentences::worked, OUT_OF_RANGE, memory -> memory.addRule(0, 0, 100, 0));
        refused("addRule: action", Sentences::worked, OUT_OF_RANGE, memory -> memory.addRule(0, 0, 0, 10));
        refused("addRule: full", ErrorSentences::full, FULL, memory -> memory.addRule(0, 0, 0, 0));
        refused("addRange: low", ErrorSentences::empty, OUT_OF_RANGE, memory -> memory.addRange(-1, 0, 0, 0));
        refused("addRange: high", Sentences::worked, OUT_OF_RANGE, memory -> memory.addRange(6, 5, 0, 0));
        refused("addRange: rank", Sentences::worked, OUT_OF_RANGE, memory -> memory.addRange(0, 0, -1, 0));
        refused("addRange: action", Sentences::worked, OUT_OF_RANGE, memory -> memory.addRange(0, 0, 0, -1));
        refused("addRange: full", ErrorSentences::full, FULL, memory -> memory.addRange(0, 255, 0, 0));
        refused("addRange: one slot less than needed", () -> filled(19, 5), FULL, memory -> memory.addRange(1, 254, 0, 0));
    }

    @Says(in = PART, words = "A method that returns an error or NONE changes nothing.")
    static void otherChangesRefused() {
        refused("remove: no rule yet", ErrorSentences::empty, UNKNOWN, memory -> memory.remove(0));
        refused("remove: removed already", Sentences::worked, UNKNOWN, memory -> memory.remove(0));
        refused("remove: -1", Sentences::worked, UNKNOWN, memory -> memory.remove(-1));
        refused("setPlacing: 3", Sentences::worked, OUT_OF_RANGE, memory -> memory.setPlacing(3));
        refused("setPlacing: as it is", Sentences::worked, NONE, memory -> memory.setPlacing(1));
        refused("compact: no entries", ErrorSentences::empty, NONE, TernaryMatcher::compact);
        refused("compact: no gaps", () -> after(worked(), TernaryMatcher::compact), NONE, TernaryMatcher::compact);
        refused("compact: no room", ErrorSentences::full, NONE, TernaryMatcher::compact);
        refused("spread: no entries", ErrorSentences::empty, NONE, TernaryMatcher::spread);
        refused("spread: spread already", () -> after(worked(), TernaryMatcher::spread), NONE, TernaryMatcher::spread);
        refused("spread: no room", ErrorSentences::full, NONE, TernaryMatcher::spread);
        refused("search: -1", Sentences::worked, OUT_OF_RANGE, memory -> memory.search(-1));
        refused("search: 256", ErrorSentences::empty, OUT_OF_RANGE, memory -> memory.search(256));
        refused("search: no rule", Sentences::worked, NONE, memory -> memory.search(128));
    }

    @Says(in = PART, words = "A method that returns an error or NONE changes nothing.")
    static void textsAndHistoryRefused() {
        refused("type: the text is full", ErrorSentences::withFullText, FULL, memory -> memory.type('x'));
        refused("addText: the empty text", ErrorSentences::empty, -100, TernaryMatcher::addText);
        refused("addText: ends too early", ErrorSentences::withFault, -127, TernaryMatcher::addText);
        refused("addText: a full text ends too early", ErrorSentences::withFullText, -160, TernaryMatcher::addText);
        refused("addText: a character not allowed", () -> after(worked(), memory -> memory.type('0')), -126, TernaryMatcher::addText);
        refused("addText: full", ErrorSentences::full, FULL, TernaryMatcher::addText);
        refused("addText: one slot less than rules", () -> {
            TernaryMatcher memory = filled(31, 5);
            type(memory, "00000000,1,2;00000000,1,2");
            return memory;
        }, FULL, TernaryMatcher::addText);
        refused("undo: no history", ErrorSentences::empty, NONE, TernaryMatcher::undo);
        refused("undo: the history is used up", () -> {
            TernaryMatcher memory = worked();
            for (int i = 0; i < 4; i++) {
                memory.undo();
            }
            return memory;
        }, NONE, TernaryMatcher::undo);
        refused("restore: no snapshot", ErrorSentences::empty, NONE, TernaryMatcher::restore);
        refused("restore: no snapshot", () -> filled(7, 5), NONE, TernaryMatcher::restore);
    }

    @Says(in = PART, words = "A method that returns an error or NONE changes nothing.")
    static void questionsRefused() {
        int[] outside = {-1, 256, Integer.MIN_VALUE, Integer.MAX_VALUE};
        for (int number : outside) {
            refused("ruleIn", Sentences::worked, UNKNOWN, memory -> memory.ruleIn(number));
            refused("maskIn", Sentences::worked, UNKNOWN, memory -> memory.maskIn(number));
            refused("valueIn", Sentences::worked, UNKNOWN, memory -> memory.valueIn(number));
            refused("sortIn", Sentences::worked, UNKNOWN, memory -> memory.sortIn(number));
            refused("slotOf", Sentences::worked, UNKNOWN, memory -> memory.slotOf(number, 0));
            refused("slotOf", Sentences::worked, UNKNOWN, memory -> memory.slotOf(1, number));
            refused("parts", Sentences::worked, UNKNOWN, memory -> memory.parts(number));
            refused("rank", Sentences::worked, UNKNOWN, memory -> memory.rank(number));
            refused("action", Sentences::worked, UNKNOWN, memory -> memory.action(number));
            refused("hits", Sentences::worked, UNKNOWN, memory -> memory.hits(number));
            refused("find", Sentences::worked, OUT_OF_RANGE, memory -> memory.find(number));
            refused("power", Sentences::worked, OUT_OF_RANGE, memory -> memory.power(number));
            refused("filterMask", Sentences::worked, UNKNOWN, memory -> memory.filterMask(number));
            refused("filterValue", Sentences::worked, UNKNOWN, memory -> memory.filterValue(number));
            refused("hiddenBy", Sentences::worked, UNKNOWN, memory -> memory.hiddenBy(number));
            refused("keysFor", Sentences::worked, UNKNOWN, memory -> memory.keysFor(number));
            refused("wouldMove", Sentences::worked, OUT_OF_RANGE, memory -> memory.wouldMove(number));
            refused("entriesFor", Sentences::worked, OUT_OF_RANGE, memory -> memory.entriesFor(number, 255));
            refused("entriesFor", Sentences::worked, OUT_OF_RANGE, memory -> memory.entriesFor(1, number));
            refused("total", Sentences::worked, OUT_OF_RANGE, memory -> memory.total(number));
        }
        refused("wouldMove: full", ErrorSentences::full, FULL, memory -> memory.wouldMove(5));
        refused("find: no rule", Sentences::worked, NONE, memory -> memory.find(128));
        refused("ruleIn: free", Sentences::worked, NONE, memory -> memory.ruleIn(31));
        refused("hiddenBy: free", Sentences::worked, NONE, memory -> memory.hiddenBy(31));
    }

    @Says(in = PART, words = "The constants: `UNKNOWN = -1`: There is no such rule, part, slot or bank.")
    static void unknown() {
        is("UNKNOWN", TernaryMatcher.UNKNOWN, -1);
        TernaryMatcher memory = filled(2, 5);
        is("rule: remove", memory.remove(2), -1);
        is("rule: slotOf", memory.slotOf(2, 0), -1);
        is("rule: parts", memory.parts(2), -1);
        is("rule: rank", memory.rank(2), -1);
        is("rule: action", memory.action(2), -1);
        is("rule: hits", memory.hits(2), -1);
        is("part: slotOf", memory.slotOf(1, 1), -1);
        is("slot: ruleIn", memory.ruleIn(32), -1);
        is("slot: maskIn", memory.maskIn(32), -1);
        is("slot: valueIn", memory.valueIn(32), -1);
        is("slot: sortIn", memory.sortIn(32), -1);
        is("slot: hiddenBy", memory.hiddenBy(32), -1);
        is("slot: keysFor", memory.keysFor(32), -1);
        is("bank: filterMask", memory.filterMask(4), -1);
        is("bank: filterValue", memory.filterValue(4), -1);
    }

    @Says(in = PART, words = "`OUT_OF_RANGE = -2`: Another argument is out of its range.")
    static void outOfRange() {
        is("OUT_OF_RANGE", TernaryMatcher.OUT_OF_RANGE, -2);
        TernaryMatcher memory = filled(2, 5);
        is("value", memory.addRule(256, 0, 0, 0), -2);
        is("mask", memory.addRule(0, 256, 0, 0), -2);
        is("rank", memory.addRule(0, 0, 100, 0), -2);
        is("action", memory.addRule(0, 0, 0, 10), -2);
        is("low", memory.addRange(-1, 0, 0, 0), -2);
        is("high", memory.addRange(0, 256, 0, 0), -2);
        is("placing", memory.setPlacing(3), -2);
        is("key of search", memory.search(256), -2);
        is("key of find", memory.find(256), -2);
        is("key of power", memory.power(256), -2);
        is("rank of wouldMove", memory.wouldMove(100), -2);
        is("high of entriesFor", memory.entriesFor(0, 256), -2);
        is("what", memory.total(11), -2);
    }

    @Says(in = PART, words = "`FULL = -3`: There is no more room.")
    static void noMoreRoom() {
        is("FULL", TernaryMatcher.FULL, -3);
        is("addRule", full().addRule(0, 0, 0, 0), -3);
        is("addRange", full().addRange(0, 0, 0, 0), -3);
        is("addText", full().addText(), -3);
        is("wouldMove", full().wouldMove(0), -3);
        is("type", withFullText().type('0'), -3);
    }

    @Says(in = PART, words = "`NONE = -4`: There is no such thing; this is not an error.")
    static void noSuchThing() {
        is("NONE", TernaryMatcher.NONE, -4);
        is("setPlacing", empty().setPlacing(0), -4);
        is("compact", empty().compact(), -4);
        is("spread", empty().spread(), -4);
        is("search", empty().search(0), -4);
        is("undo", empty().undo(), -4);
        is("restore", empty().restore(), -4);
        is("ruleIn", empty().ruleIn(0), -4);
        is("maskIn", empty().maskIn(0), -4);
        is("valueIn", empty().valueIn(0), -4);
        is("sortIn", empty().sortIn(0), -4);
        is("find", empty().find(0), -4);
        is("hiddenBy", empty().hiddenBy(0), -4);
    }
}
