/** Counts checks and prints those whose answer is not the one that is due. */
final class Due {
    private static int checks = 0;
    private static int wrong = 0;
    private static String about = "";

    private Due() {
    }

    /** Sets what is printed ahead of the checks that follow. */
    static void about(String what) {
        about = what;
    }

    static void is(String call, long got, long want) {
        checks++;
        if (got != want) {
            wrong++;
            System.out.println(about + call + " answered " + got + ", due is " + want);
        }
    }

    static void holds(String what, boolean stands) {
        checks++;
        if (!stands) {
            wrong++;
            System.out.println(about + "does not hold: " + what);
        }
    }

    static int checks() {
        return checks;
    }

    static boolean anyWrong() {
        return wrong > 0;
    }

    /** Ends the test: exit code 1 if a check failed, or if none was made. */
    static void end(String test) {
        System.out.println(test + ": " + checks + " checks, " + wrong + " not as due");
        if (wrong > 0 || checks == 0) {
            System.exit(1);
        }
    }
}
