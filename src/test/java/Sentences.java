import java.util.function.Supplier;
import java.util.function.ToIntFunction;

/** What the tests of the sentences have in common. */
abstract class Sentences {
    static final int UNKNOWN = TernaryMatcher.UNKNOWN;
    static final int OUT_OF_RANGE = TernaryMatcher.OUT_OF_RANGE;
    static final int FULL = TernaryMatcher.FULL;
    static final int NONE = TernaryMatcher.NONE;

    static final int ENTRIES = 0;
    static final int RULES = 1;
    static final int RULES_ADDED = 2;
    static final int PLACING = 3;
    static final int MOVED = 4;
    static final int SEARCHES = 5;
    static final int POWERS = 6;
    static final int NEVER_FOUND = 7;
    static final int LOST_KEYS = 8;
    static final int STATES = 9;
    static final int TEXT_LENGTH = 10;

    /** A call that takes one number. */
    interface Call {
        int on(TernaryMatcher memory, int number);
    }

    static void is(String call, long got, long want) {
        Due.is(call, got, want);
    }

    /** Rules of one rank in the slots from 0 on; the rule, the slot and the only key are the same number. */
    static TernaryMatcher filled(int entries, int rank) {
        TernaryMatcher memory = new TernaryMatcher();
        for (int key = 0; key < entries; key++) {
            memory.addRule(key, 255, rank, key % 10);
        }
        return memory;
    }

    /**
     * Entries in some slots, told as pairs of slot and rank from lower slots to higher ones; the rule, the
     * slot and the only key of each are the same number, and the next rule will be 32.
     */
    static TernaryMatcher with(int... slotsAndRanks) {
        TernaryMatcher memory = new TernaryMatcher();
        int next = 0;
        for (int slot = 0; slot < 32; slot++) {
            boolean last = next >= slotsAndRanks.length;
            memory.addRule(slot, 255, last ? 99 : slotsAndRanks[next + 1], 0);
            next += !last && slotsAndRanks[next] == slot ? 2 : 0;
        }
        for (int slot = 0; slot < 32; slot++) {
            boolean kept = false;
            for (int i = 0; i < slotsAndRanks.length; i += 2) {
                kept |= slotsAndRanks[i] == slot;
            }
            if (!kept) {
                memory.remove(slot);
            }
        }
        return memory;
    }

    /** Entries in all slots but some: rank 10 below a slot, rank 20 from it on; the next rule will be 32. */
    static TernaryMatcher withGaps(int firstOf20, int... gaps) {
        TernaryMatcher memory = new TernaryMatcher();
        for (int slot = 0; slot < 32; slot++) {
            memory.addRule(slot, 255, slot < firstOf20 ? 10 : 20, 0);
        }
        for (int gap : gaps) {
            memory.remove(gap);
        }
        return memory;
    }

    /** A new object with a text. */
    static TernaryMatcher typed(String text) {
        TernaryMatcher memory = new TernaryMatcher();
        type(memory, text);
        return memory;
    }

    static void type(TernaryMatcher memory, String text) {
        for (int i = 0; i < text.length(); i++) {
            memory.type(text.charAt(i));
        }
    }

    /** The rules in the slots from a first one on. */
    static void holds(TernaryMatcher memory, int first, int... rules) {
        for (int i = 0; i < rules.length; i++) {
            is("ruleIn(" + (first + i) + ")", memory.ruleIn(first + i), rules[i]);
        }
    }

    /** The ends of a number's range are taken; the numbers beside it, and the far ones, are answered by the error. */
    static void ends(String name, int low, int high, int error, Supplier<TernaryMatcher> start, Call call) {
        int[] inside = {low, high};
        for (int number : inside) {
            int answer = call.on(start.get(), number);
            Due.holds(name + " " + number + " is taken, but answered " + answer, answer != error);
        }
        int[] outside = {low - 1, high + 1, -low - 2, high + 256, Integer.MIN_VALUE, Integer.MAX_VALUE};
        for (int number : outside) {
            is(name + " " + number, call.on(start.get(), number), error);
        }
    }

    /** Makes a call on an object; for calls whose answer is not looked at. */
    static TernaryMatcher after(TernaryMatcher memory, ToIntFunction<TernaryMatcher> call) {
        call.applyAsInt(memory);
        return memory;
    }

    /** All that can be seen of the state: the entries, their rules, and the counts. */
    static String state(TernaryMatcher memory) {
        StringBuilder seen = new StringBuilder();
        for (int slot = 0; slot < 32; slot++) {
            int rule = memory.ruleIn(slot);
            seen.append(slot).append(": ").append(rule);
            if (rule >= 0) {
                seen.append(' ').append(memory.maskIn(slot)).append(' ').append(memory.valueIn(slot));
                seen.append(' ').append(memory.rank(rule)).append(' ').append(memory.action(rule));
                seen.append(' ').append(memory.hits(rule)).append(' ').append(memory.slotOf(rule, 0));
            }
            seen.append('\n');
        }
        for (int what = ENTRIES; what <= POWERS; what++) {
            seen.append("total ").append(what).append(": ").append(memory.total(what)).append('\n');
        }
        return seen.toString();
    }

    /** The state, and how much there is in the history and in the text. */
    static String whole(TernaryMatcher memory) {
        return state(memory) + "states " + memory.total(STATES) + ", text " + memory.total(TEXT_LENGTH);
    }

    static void same(String what, String got, String want) {
        Due.holds(what + "\n" + got + "\nshould be\n" + want, got.equals(want));
    }

    /** An object with all that there can be: hits, moved entries, a gap, a snapshot, four states, a text of two rules. */
    static TernaryMatcher worked() {
        TernaryMatcher memory = new TernaryMatcher();
        memory.addRule(0b10100000, 0b11110000, 50, 1);
        memory.addRange(1, 6, 40, 2);
        memory.search(3);
        memory.keep();
        memory.setPlacing(1);
        memory.addRule(0b00000111, 0b01010101, 60, 3);
        memory.search(165);
        memory.remove(0);
        memory.addRule(9, 255, 30, 4);
        type(memory, "0*0*0*0*,45,6;11111111,7,8");
        return memory;
    }

    /** A key or a mask as eight signs "0" and "1", from the highest bit on. */
    static String bits(int number) {
        return Integer.toBinaryString(256 + number).substring(1);
    }
}
