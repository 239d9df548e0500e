/** The sentences of TEXTS, and the promises 9 to 11. */
final class TextSentences extends Sentences {
    private static final String PART = "TEXTS";
    private static final String TYPE = "Promise 9";
    private static final String CLEAR = "Promise 10";
    private static final String ADD = "Promise 11";
    private static final String RULE = "1*0*1*0*,07,3";
    /** 51 characters, the shortest text of four rules. */
    private static final String FOUR = "00000000,1,2;00000001,1,2;00000010,1,2;00000011,1,2";

    private static void fault(String text, int fault) {
        TernaryMatcher memory = typed(text);
        is("addText of \"" + text + "\"", memory.addText(), -100 - fault);
    }

    /** Adds a text to a new object; it must have that many rules. */
    private static TernaryMatcher added(String text, int rules) {
        TernaryMatcher memory = typed(text);
        is("addText of \"" + text + "\"", memory.addText(), rules);
        is("rules of \"" + text + "\"", memory.total(RULES), rules);
        return memory;
    }

    @Says(in = PART, words = "There is a text of at most 60 characters,")
    static void atMost60Characters() {
        TernaryMatcher memory = new TernaryMatcher();
        for (int length = 1; length <= 60; length++) {
            is("character " + length, memory.type('0'), length);
        }
        is("character 61", memory.type('0'), FULL);
        is("character 62", memory.type('0'), FULL);
        is("length", memory.total(TEXT_LENGTH), 60);
        is("cleared", memory.clearText(), 60);
        is("room again", memory.type('0'), 1);
    }

    @Says(in = PART, words = "empty at first.")
    static void emptyAtFirst() {
        is("length", new TernaryMatcher().total(TEXT_LENGTH), 0);
        is("clearText", new TernaryMatcher().clearText(), 0);
        is("addText", new TernaryMatcher().addText(), -100);
    }

    @Says(in = PART, words = "It is a list of one or more rules with \";\" between two:")
    static void rulesWithASignBetweenTwo() {
        added(RULE, 1);
        added(RULE + ";" + RULE, 2);
        added(RULE + ";" + RULE + ";" + RULE, 3);
        added(FOUR, 4);
        added(RULE + ";" + RULE + ";" + RULE + ";" + RULE, 4);
        fault(";", 0);
        fault(";" + RULE, 0);
        fault(RULE + ";", 14);
        fault(RULE + ";;" + RULE, 14);
        fault(RULE + RULE, 13);
        fault(RULE + "," + RULE, 13);
        fault(RULE + ":" + RULE, 13);
        fault(RULE + "<" + RULE, 13);
        fault(RULE + " ;" + RULE, 13);
        fault(RULE + "; " + RULE, 14);
        fault(RULE + ";" + RULE + ";", 28);
        fault(FOUR + ";", 52);
    }

    @Says(in = PART, words = "eight characters \"0\", \"1\" or \"*\" (a bit that does not matter),")
    static void eightCharacters() {
        TernaryMatcher memory = added("01*01*01,5,0", 1);
        is("mask", memory.maskIn(0), 0b11011011);
        is("value", memory.valueIn(0), 0b01001001);
        memory = added("********,5,0;00000000,6,0;11111111,7,0", 3);
        int[] masks = {0, 255, 255};
        int[] values = {0, 0, 255};
        for (int slot = 0; slot < 3; slot++) {
            is("maskIn(" + slot + ")", memory.maskIn(slot), masks[slot]);
            is("valueIn(" + slot + ")", memory.valueIn(slot), values[slot]);
        }
        fault("0101010,5,0", 7);
        fault("010101010,5,0", 8);
        fault(",5,0", 0);
        // The signs beside "0", "1" and "*" in their order, and some that look alike.
        char[] others = {'/', '2', ')', '+', 'x', 'O', 'l', ' ', '?', (char) 0, (char) 0x0660, (char) 0xff11, (char) 0x0130};
        for (int i = 0; i < 8; i++) {
            for (char other : others) {
                fault("01*01*01".substring(0, i) + other + "01*01*01,5,0".substring(i + 1), i);
            }
        }
    }

    @Says(in = PART, words = "from the highest bit to the lowest,")
    static void fromTheHighestBit() {
        for (int i = 0; i < 8; i++) {
            String one = "********".substring(i + 1);
            TernaryMatcher memory = added("********".substring(0, i) + "1" + one + ",5,0", 1);
            is("mask of the sign " + i, memory.maskIn(0), 128 >> i);
            is("value of the sign " + i, memory.valueIn(0), 128 >> i);
            memory = added("11111111".substring(0, i) + "0" + "11111111".substring(i + 1) + ",5,0", 1);
            is("mask of the sign " + i, memory.maskIn(0), 255);
            is("value of the sign " + i, memory.valueIn(0), 255 - (128 >> i));
        }
    }

    @Says(in = PART, words = "\",\", a rank of one or two digits")
    static void aRankOfOneOrTwoDigits() {
        for (int rank = 0; rank <= 99; rank++) {
            is("rank", added("00000000," + rank + ",3", 1).rank(0), rank);
        }
        fault("00000000;5,3", 8);
        fault("00000000-5,3", 8);
        fault("00000000 ,5,3", 8);
        fault("000000005,3", 8);
        fault("00000000,,3", 9);
        fault("00000000,-5,3", 9);
        fault("00000000,+5,3", 9);
        fault("00000000, 5,3", 9);
        fault("00000000,*,3", 9);
        fault("00000000,/,3", 9);
        fault("00000000,:,3", 9);
        fault("00000000,5/,3", 10);
        fault("00000000,5:,3", 10);
        fault("00000000,5 ,3", 10);
        fault("00000000,100,3", 11);
        fault("00000000,555,3", 11);
    }

    @Says(in = PART, words = "(a zero ahead is allowed),")
    static void aZeroAhead() {
        for (int rank = 0; rank <= 9; rank++) {
            is("rank", added("00000000,0" + rank + ",3", 1).rank(0), rank);
        }
        fault("00000000,000,3", 11);
        fault("00000000,007,3", 11);
    }

    @Says(in = PART, words = "\",\", and an action of one digit.")
    static void anActionOfOneDigit() {
        for (int action = 0; action <= 9; action++) {
            is("action", added("00000000,5," + action, 1).action(0), action);
        }
        fault("00000000,5;3", 10);
        fault("00000000,55;3", 11);
        fault("00000000,55.3", 11);
        fault("00000000,5,,", 11);
        fault("00000000,5,*", 11);
        fault("00000000,5,-3", 11);
        fault("00000000,5,/", 11);
        fault("00000000,5,:", 11);
        fault("00000000,5,03", 12);
        fault("00000000,5,10", 12);
        fault("00000000,55,33", 13);
    }

    @Says(in = PART, words = "The fault of the text is the index, from 0, of the first character that is not allowed at its place,")
    static void theFirstCharacterNotAllowed() {
        String text = RULE + ";" + RULE + ";00000000,5,3";
        for (int i = 0; i < text.length(); i++) {
            String start = text.substring(0, i);
            fault(start + "x" + text.substring(i + 1), i);
            fault(start + "x", i);
            fault(start + "xx;;", i);
            fault(start + (char) 65535 + text.substring(i + 1), i);
        }
        fault(text + "x", text.length());
        fault(FOUR + "x", 51);
        fault(FOUR + ";0000000x", 59);
        fault("x" + FOUR + ";00000000", 0);
    }

    @Says(in = PART, words = "or the length of the text if it ends too early")
    static void endsTooEarly() {
        String text = RULE + ";" + RULE + ";" + RULE;
        for (int length = 1; length < text.length(); length++) {
            boolean whole = length == 13 || length == 27;
            boolean wholeByOneDigit = length == 10 || length == 24 || length == 38;
            if (!whole) {
                fault(text.substring(0, length), length);
            }
            if (wholeByOneDigit) {
                fault(text.substring(0, length - 1) + "7", length);
                fault(text.substring(0, length - 1) + "7,", length + 1);
            }
        }
        fault(FOUR + ";00000000", 60);
        fault(RULE + ";" + RULE + ";" + RULE + ";" + RULE + ";0000", 60);
        fault(FOUR + ";0000000", 59);
    }

    @Says(in = PART, words = "(the empty text does).")
    static void theEmptyTextEndsTooEarly() {
        TernaryMatcher memory = new TernaryMatcher();
        is("at first", memory.addText(), -100);
        type(memory, RULE);
        memory.clearText();
        is("after clearText", memory.addText(), -100);
        is("no rule", memory.total(RULES_ADDED), 0);
    }

    @Says(in = TYPE, words = "Appends a character to the text.")
    static void typeAppends() {
        TernaryMatcher memory = typed("00000000,1,2");
        is("addText", memory.addText(), 1);
        memory.type(';');
        is("the sign is at the end", memory.addText(), -113);
        type(memory, "00000000,1,");
        is("nothing is put ahead", memory.addText(), -124);
        memory.type('2');
        is("two rules", memory.addText(), 2);
        is("typing is no change", memory.total(STATES), 2);
    }

    @Says(in = TYPE, words = "`character`: any character")
    static void anyCharacter() {
        TernaryMatcher memory = new TernaryMatcher();
        char[] any = {(char) 0, (char) 1, '\n', ' ', '"', '0', ';', '\\', 'z', (char) 127, (char) 128, (char) 255,
            (char) 256, (char) 32767, (char) 0xd800, (char) 65535};
        for (int i = 0; i < any.length; i++) {
            is("type of the sign " + (int) any[i], memory.type(any[i]), i + 1);
        }
        is("its fault", memory.addText(), -100);
    }

    @Says(in = TYPE, words = "Returns the length of the text then; FULL if it has 60 characters.")
    static void lengthOrFull() {
        TernaryMatcher memory = new TernaryMatcher();
        is("the first", memory.type('0'), 1);
        is("the second", memory.type('0'), 2);
        for (int i = 3; i < 60; i++) {
            memory.type('0');
        }
        is("the last one", memory.type('0'), 60);
        is("one more", memory.type('0'), FULL);
        is("any other one", memory.type(';'), FULL);
        is("addText takes no room of it", memory.addText(), -108);
        is("one more", memory.type('0'), FULL);
    }

    @Says(in = CLEAR, words = "Empties the text.")
    static void clearTextEmpties() {
        TernaryMatcher memory = typed(RULE);
        memory.clearText();
        is("length", memory.total(TEXT_LENGTH), 0);
        is("the empty text", memory.addText(), -100);
        is("the first character", memory.type('0'), 1);
        is("what was there is gone", memory.addText(), -101);
        memory.clearText();
        type(memory, RULE);
        is("another text", memory.addText(), 1);
    }

    @Says(in = CLEAR, words = "Returns the length that it had.")
    static void clearTextTellsTheLength() {
        TernaryMatcher memory = typed(RULE);
        is("13 characters", memory.clearText(), 13);
        is("none", memory.clearText(), 0);
        type(memory, FOUR + ";00000000");
        is("60 characters", memory.clearText(), 60);
        memory.type('x');
        is("one", memory.clearText(), 1);
        is("it is no change", memory.total(STATES), 0);
    }

    @Says(in = ADD, words = "Adds the rules of the text, which stays,")
    static void theTextStays() {
        TernaryMatcher memory = typed(RULE);
        is("one rule", memory.addText(), 1);
        is("length", memory.total(TEXT_LENGTH), 13);
        is("rank", memory.rank(0), 7);
        is("action", memory.action(0), 3);
        is("hits", memory.hits(0), 0);
        is("parts", memory.parts(0), 1);
        is("once more", memory.addText(), 1);
        is("the second rule", memory.rank(1), 7);
        type(memory, ";" + RULE);
        is("it can be typed on", memory.addText(), 2);
        is("rules", memory.total(RULES), 4);
    }

    @Says(in = ADD, words = "one after the other.")
    static void oneAfterTheOther() {
        TernaryMatcher memory = new TernaryMatcher();
        memory.addRule(0, 0, 20, 5);
        type(memory, "0000000*,30,1;1111111*,10,2;000000**,30,3;10******,5,4");
        is("four rules", memory.addText(), 4);
        holds(memory, 0, 4, 2, 0, 1, 3);
        is("each moves what is there", memory.total(MOVED), 2 + 4);
        memory = typed("00000000,5,1;11111111,5,2;00001111,5,3");
        memory.setPlacing(1);
        is("three rules of the same rank", memory.addText(), 3);
        is("the first one is placed first", memory.slotOf(0, 0), 15);
        is("then the second one", memory.slotOf(1, 0), 23);
        is("then the third one", memory.slotOf(2, 0), 27);
    }

    @Says(in = ADD, words = "This is one change.")
    static void addTextIsOneChange() {
        TernaryMatcher memory = filled(2, 5);
        type(memory, FOUR);
        memory.addText();
        is("states", memory.total(STATES), 3);
        is("undo", memory.undo(), 2);
        is("all four are gone", memory.total(RULES_ADDED), 2);
        is("the text is still there", memory.addText(), 4);
    }

    @Says(in = ADD, words = "Returns how many rules are added;")
    static void howManyRules() {
        is("one", typed("********,0,0").addText(), 1);
        is("four", typed(FOUR).addText(), 4);
        TernaryMatcher memory = filled(28, 5);
        type(memory, FOUR);
        is("four, four free slots", memory.addText(), 4);
        is("no slot is free", memory.total(ENTRIES), 32);
        memory = filled(31, 5);
        type(memory, RULE);
        is("one, one free slot", memory.addText(), 1);
    }

    @Says(in = ADD, words = "-100 minus the fault of the text if it has one (this is an error);")
    static void minus100MinusTheFault() {
        fault("x", 0);
        fault("0", 1);
        fault("0x", 1);
        fault(FOUR + ";0000000,", 59);
        fault(FOUR + ";00000000", 60);
        TernaryMatcher memory = filled(32, 5);
        is("it stands before FULL", memory.addText(), -100);
        type(memory, RULE + ";" + RULE + "x");
        is("it stands before FULL", memory.addText(), -127);
        is("it is not recorded", memory.total(STATES), 4);
        is("no rule is added", memory.total(RULES_ADDED), 32);
    }

    @Says(in = ADD, words = "FULL if there are fewer free slots than rules.")
    static void fewerFreeSlotsThanRules() {
        for (int free = 0; free <= 4; free++) {
            TernaryMatcher memory = filled(32 - free, 5);
            type(memory, FOUR);
            is("four rules, " + free + " free slots", memory.addText(), free < 4 ? FULL : 4);
            is("entries", memory.total(ENTRIES), free < 4 ? 32 - free : 32);
            is("rules added", memory.total(RULES_ADDED), free < 4 ? 32 - free : 32);
        }
        TernaryMatcher memory = filled(32, 5);
        type(memory, RULE);
        is("one rule, no free slot", memory.addText(), FULL);
    }
}
