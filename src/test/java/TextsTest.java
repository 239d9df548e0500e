/** Promises 9 to 11: the text. */
final class TextsTest {
    private static final String RULE = "1*0*1*0*,07,3";

    public static void main(String[] args) {
        typing();
        clearing();
        faultsAtEachPlace();
        faultsAfterARule();
        addsOneRule();
        addsSeveralRules();
        fullAndErrors();
        Due.end("TextsTest");
    }

    private static void typing() {
        TernaryMatcher memory = new TernaryMatcher();
        char[] any = {'a', (char) 0, (char) 65535, ';', (char) 233, '\n'};
        for (int i = 0; i < 60; i++) {
            Due.is("type " + i, memory.type(any[i % any.length]), i + 1);
        }
        Due.is("61st", memory.type('a'), TernaryMatcher.FULL);
        Due.is("62nd", memory.type(';'), TernaryMatcher.FULL);
        Due.is("length", memory.total(10), 60);
        Due.is("typing is no change", memory.total(9), 0);
    }

    private static void clearing() {
        TernaryMatcher memory = new TernaryMatcher();
        Due.is("empty", memory.clearText(), 0);
        Due.typeAll(memory, RULE);
        Due.is("cleared", memory.clearText(), 13);
        Due.is("length", memory.total(10), 0);
        Due.is("again", memory.clearText(), 0);
        Due.is("type", memory.type('0'), 1);
        Due.is("what was there is gone", memory.addText(), -101);
        Due.is("clearing is no change", memory.total(9), 0);
    }

    private static void fault(String text, int fault) {
        TernaryMatcher memory = new TernaryMatcher();
        Due.typeAll(memory, text);
        Due.is("fault of \"" + text + "\"", memory.addText(), -100 - fault);
        Due.is("nothing is added: " + text, memory.total(2), 0);
        Due.is("nothing is recorded: " + text, memory.total(9), 0);
        Due.is("the text stays: " + text, memory.total(10), text.length());
    }

    private static void faultsAtEachPlace() {
        for (int length = 0; length < RULE.length(); length++) {
            fault(RULE.substring(0, length), length);
            String wrong = "a;" + (length == 8 || length == 11 ? "0*" : ",") + (char) 233 + (char) 0 + (char) 304;
            for (int i = 0; i < wrong.length(); i++) {
                boolean allowed = length == 10 && wrong.charAt(i) == ',';
                if (!allowed) {
                    fault(RULE.substring(0, length) + wrong.charAt(i) + "1*0*1*0*,07,3", length);
                }
            }
        }
        fault("2*0*1*0*,07,3", 0);
        fault("1*0*1*0*0,07,3", 8);
        fault("1*0*1*0*,*7,3", 9);
        fault("1*0*1*0*,,3", 9);
        fault("1*0*1*0*,-7,3", 9);
        fault("1*0*1*0*,007,3", 11);
        fault("1*0*1*0*,100,3", 11);
        fault("1*0*1*0*,7;3", 10);
        fault("1*0*1*0*,7", 10);
        fault("1*0*1*0*,7,", 11);
        fault("1*0*1*0*,7,*", 11);
        fault(" 1*0*1*0*,7,3", 0);
        fault("1*0*1*0*,:,3", 9);
        fault("1*0*1*0*,/,3", 9);
    }

    private static void faultsAfterARule() {
        fault(RULE + ";", 14);
        fault(RULE + ";;", 14);
        fault(RULE + "0", 13);
        fault(RULE + ",", 13);
        fault(RULE + " ", 13);
        fault(";" + RULE, 0);
        fault(RULE + ";" + RULE + ";", 28);
        fault(RULE + ";1*0*1*0*,07,", 26);
        String shortRule = "00000000,1,2";
        String four = shortRule + ";" + shortRule + ";" + shortRule + ";" + shortRule;
        fault(four + ";", 52);
        fault(four + ";00000000", 60);
        fault(four + ";0000000,", 59);
        fault(four + "x", 51);
    }

    private static void addsOneRule() {
        TernaryMatcher memory = new TernaryMatcher();
        Due.typeAll(memory, "1*0*1*0*,99,9");
        Due.is("one rule", memory.addText(), 1);
        Due.is("mask", memory.maskIn(0), 0b10101010);
        Due.is("value", memory.valueIn(0), 0b10001000);
        Due.is("rank", memory.rank(0), 99);
        Due.is("action", memory.action(0), 9);
        Due.is("parts", memory.parts(0), 1);
        Due.is("the text stays", memory.total(10), 13);
        Due.is("once more", memory.addText(), 1);
        Due.is("rules", memory.total(1), 2);
        String[] texts = {"********,0,0", "00000000,00,0", "11111111,5,8", "01*01*01,50,1"};
        int[] masks = {0, 255, 255, 0b11011011};
        int[] values = {0, 0, 255, 0b01001001};
        int[] ranks = {0, 0, 5, 50};
        int[] actions = {0, 0, 8, 1};
        for (int i = 0; i < texts.length; i++) {
            memory = new TernaryMatcher();
            Due.typeAll(memory, texts[i]);
            Due.is(texts[i], memory.addText(), 1);
            Due.is("mask of " + texts[i], memory.maskIn(0), masks[i]);
            Due.is("value of " + texts[i], memory.valueIn(0), values[i]);
            Due.is("rank of " + texts[i], memory.rank(0), ranks[i]);
            Due.is("action of " + texts[i], memory.action(0), actions[i]);
        }
    }

    private static void addsSeveralRules() {
        TernaryMatcher memory = new TernaryMatcher();
        memory.addRule(0, 0, 20, 5);
        Due.typeAll(memory, "0000000*,30,1;1111111*,10,2;000000**,30,3;10******,5,4");
        Due.is("four rules", memory.addText(), 4);
        int[] want = {4, 2, 0, 1, 3};
        for (int slot = 0; slot < 5; slot++) {
            Due.is("slot " + slot, memory.ruleIn(slot), want[slot]);
        }
        Due.is("moved: 2, then 4", memory.total(4), 6);
        Due.is("added so far", memory.total(2), 5);
        Due.is("one change", memory.undo(), 1);
        Due.is("all are gone", memory.total(1), 1);
        Due.is("the text is no part of the state", memory.total(10), 54);
        Due.is("added again", memory.addText(), 4);
        Due.is("cleared", memory.clearText(), 54);
        Due.typeAll(memory, "0000000*,30,1;1111111*,10,2;000000**,30,3;10******,05,4");
        Due.is("the longest text", memory.total(10), 55);
        Due.is("four rules", memory.addText(), 4);
    }

    private static void fullAndErrors() {
        TernaryMatcher memory = Due.filled(31, 5);
        Due.typeAll(memory, RULE + ";" + RULE);
        Due.is("two rules, one free slot", memory.addText(), TernaryMatcher.FULL);
        Due.is("none is added", memory.total(1), 31);
        Due.is("no number is used", memory.total(2), 31);
        memory.type('x');
        Due.is("the fault before full", memory.addText(), -127);
        memory.clearText();
        Due.typeAll(memory, RULE);
        Due.is("one rule, one free slot", memory.addText(), 1);
        Due.is("no free slot", memory.addText(), TernaryMatcher.FULL);
        memory.clearText();
        Due.is("the fault before full", memory.addText(), -100);
    }
}
