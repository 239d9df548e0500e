/**
 * Runs of 512 calls on the class and on the model: each answer must be the same. The calls are drawn
 * from a row of numbers that is the same each time.
 */
final class ModelTest {
    private static final int RUNS = 1500;
    private static final int CALLS = 512;
    private static final int[] EDGES = {-1, -2, -4, -100, 2, 3, 4, 9, 10, 11, 31, 32, 60, 99, 100, 255, 256,
        Integer.MIN_VALUE, Integer.MAX_VALUE};
    private static final int[] PREFIXES = {0, 128, 192, 224, 240, 248, 252, 254, 255};
    private static long seed;

    private static TernaryMatcher real;
    private static Model model;
    private static int rankChoices;
    private static int addWeight;
    private static int added;
    private static int calls;
    private static String ahead = "";

    public static void main(String[] args) {
        for (int run = 0; run < RUNS && !Due.anyWrong(); run++) {
            seed = 77L * run + 5;
            real = new TernaryMatcher();
            model = new Model();
            rankChoices = new int[] {1, 2, 4, 10, 100}[draw(5)];
            addWeight = 1 + draw(12);
            added = 0;
            ahead = "";
            calls = 0;
            while (calls < CALLS && !Due.anyWrong()) {
                oneCall("run " + run + ", call " + calls + ": ");
            }
        }
        Due.end("ModelTest");
    }

    private static int draw(int bound) {
        seed = seed * 6364136223846793005L + 1442695040888963407L;
        return (int) ((seed >>> 33) % bound);
    }

    private static int number(int bound) {
        return draw(40) == 0 ? EDGES[draw(EDGES.length)] : draw(bound);
    }

    private static int mask() {
        return draw(3) == 0 ? number(256) : PREFIXES[draw(PREFIXES.length)];
    }

    private static int rule() {
        return draw(5) == 0 ? number(40) : Math.max(0, added - 1 - draw(34));
    }

    private static void oneCall(String at) {
        int kind = draw(30 + addWeight);
        if (kind >= 30) {
            adding(at);
        } else if (kind < 10) {
            changing(at, kind);
        } else if (kind < 16) {
            writing(at, kind);
        } else {
            asking(at);
        }
    }

    private static void adding(String at) {
        int rank = draw(40) == 0 ? number(100) : draw(rankChoices);
        int action = number(10);
        if (draw(4) == 0) {
            int low = number(256);
            int high = draw(2) == 0 ? number(256) : low + draw(20);
            compare(at + "addRange(" + low + ", " + high + ", " + rank + ", " + action + ")",
                    real.addRange(low, high, rank, action), model.addRange(low, high, rank, action));
        } else {
            int value = number(256);
            int mask = mask();
            compare(at + "addRule(" + value + ", " + mask + ", " + rank + ", " + action + ")",
                    real.addRule(value, mask, rank, action), model.addRule(value, mask, rank, action));
        }
        added = model.total(2);
    }

    private static void changing(String at, int kind) {
        int key = number(256);
        int rule = rule();
        int placing = number(3);
        switch (kind) {
            case 0: case 1: compare(at + "remove(" + rule + ")", real.remove(rule), model.remove(rule)); break;
            case 2: compare(at + "setPlacing(" + placing + ")", real.setPlacing(placing), model.setPlacing(placing)); break;
            case 3: compare(at + "compact()", real.compact(), model.compact()); break;
            case 4: compare(at + "spread()", real.spread(), model.spread()); break;
            case 5: case 6: compare(at + "search(" + key + ")", real.search(key), model.search(key)); break;
            case 7: compare(at + "undo()", real.undo(), model.undo()); break;
            case 8: compare(at + "keep()", real.keep(), model.keep()); break;
            default:
                if (draw(4) == 0) {
                    compare(at + "restore()", real.restore(), model.restore());
                }
                break;
        }
        added = model.total(2);
    }

    /** Types a text that is mostly right, sign by sign, over the calls. */
    private static void writing(String at, int kind) {
        if (kind == 10 && draw(3) == 0) {
            compare(at + "clearText()", real.clearText(), model.clearText());
            ahead = "";
        } else if (kind == 11) {
            compare(at + "addText()", real.addText(), model.addText());
        } else {
            for (int i = 0; i < 4 && calls < CALLS - 1; i++) {
                if (ahead.isEmpty()) {
                    ahead = (model.total(10) > 0 ? ";" : "") + ruleText();
                }
                char sign = draw(60) == 0 ? "01*,;:/x\u00e9\u1234".charAt(draw(10)) : ahead.charAt(0);
                ahead = ahead.substring(1);
                compare(at + "type('" + sign + "')", real.type(sign), model.type(sign));
            }
            if (ahead.isEmpty()) {
                compare(at + "addText()", real.addText(), model.addText());
            }
        }
        added = model.total(2);
    }

    private static String ruleText() {
        StringBuilder text = new StringBuilder();
        for (int i = 0; i < 8; i++) {
            text.append("01**".charAt(draw(4)));
        }
        text.append(',').append(draw(rankChoices)).append(',').append(draw(10));
        return text.toString();
    }

    private static void asking(String at) {
        int slot = number(32);
        int rule = rule();
        int part = draw(2) == 0 ? 0 : number(14);
        int key = number(256);
        int what = number(11);
        switch (draw(18)) {
            case 0: compare(at + "ruleIn(" + slot + ")", real.ruleIn(slot), model.ruleIn(slot)); break;
            case 1: compare(at + "maskIn(" + slot + ")", real.maskIn(slot), model.maskIn(slot)); break;
            case 2: compare(at + "valueIn(" + slot + ")", real.valueIn(slot), model.valueIn(slot)); break;
            case 3: compare(at + "sortIn(" + slot + ")", real.sortIn(slot), model.sortIn(slot)); break;
            case 4: compare(at + "slotOf(" + rule + ", " + part + ")", real.slotOf(rule, part), model.slotOf(rule, part)); break;
            case 5: compare(at + "parts(" + rule + ")", real.parts(rule), model.parts(rule)); break;
            case 6: compare(at + "rank(" + rule + ")", real.rank(rule), model.rank(rule)); break;
            case 7: compare(at + "action(" + rule + ")", real.action(rule), model.action(rule)); break;
            case 8: compare(at + "hits(" + rule + ")", real.hits(rule), model.hits(rule)); break;
            case 9: compare(at + "find(" + key + ")", real.find(key), model.find(key)); break;
            case 10: compare(at + "power(" + key + ")", real.power(key), model.power(key)); break;
            case 11: compare(at + "filterMask", real.filterMask(part), model.filterMask(part)); break;
            case 12: compare(at + "filterValue", real.filterValue(slot % 5), model.filterValue(slot % 5)); break;
            case 13: compare(at + "hiddenBy(" + slot + ")", real.hiddenBy(slot), model.hiddenBy(slot)); break;
            case 14: compare(at + "keysFor(" + slot + ")", real.keysFor(slot), model.keysFor(slot)); break;
            case 15: compare(at + "wouldMove(" + part + ")", real.wouldMove(part), model.wouldMove(part)); break;
            case 16: compare(at + "entriesFor(" + key + ", " + slot + ")",
                    real.entriesFor(slot, key), model.entriesFor(slot, key)); break;
            default: compare(at + "total(" + what + ")", real.total(what), model.total(what)); break;
        }
    }

    private static void compare(String call, int got, int want) {
        calls++;
        Due.is(call, got, want);
    }
}
