/** Counts checks and prints those whose answer is not the one that is due. */
final class Due {
    private static int checks = 0;
    private static int wrong = 0;

    private Due() {
    }

    static void is(String call, long got, long want) {
        checks++;
        if (got != want) {
            wrong++;
            System.out.println(call + " answered " + got + ", due is " + want);
        }
    }

    static void holds(String what, boolean stands) {
        checks++;
        if (!stands) {
            wrong++;
            System.out.println("does not hold: " + what);
        }
    }

    static boolean anyWrong() {
        return wrong > 0;
    }

    /** Ends the test: exit code 1 if a check failed, or if none was made. */
    static void end(String test) {
        System.out.println(test + ": " + checks + " checks, " + wrong + " not as due");
        if (wrong > 0 || checks == 0) {
            System.exit(1);
        }
    }

    /** Types all characters of a text. */
    static void typeAll(TernaryMatcher memory, String text) {
        for (int i = 0; i < text.length(); i++) {
            memory.type(text.charAt(i));
        }
    }

    /** Adds rules of one rank until the memory has that many entries; the keys are 0, 1, 2, .. */
    static TernaryMatcher filled(int entries, int rank) {
        TernaryMatcher memory = new TernaryMatcher();
        for (int key = 0; key < entries; key++) {
            memory.addRule(key, 255, rank, key % 10);
        }
        return memory;
    }
}
