/** What the tests of the project share: each answer is held against the one that is due. */
final class Due {
    private static int wrong = 0;
    private static String about = "";

    private Due() {
    }

    /** What is printed ahead of each wrong answer from here on. */
    static void about(String words) {
        about = words;
    }

    static void is(String call, long got, long want) {
        if (got != want) {
            wrong++;
            System.out.println(about + call + " answered " + got + ", due is " + want);
        }
    }

    static void same(String what, String got, String want) {
        if (!got.equals(want)) {
            wrong++;
            System.out.println(about + what + " is " + got + ", due is " + want);
        }
    }

    /** Ends the test, with exit code 1 if an answer was not as due. */
    static void end() {
        System.out.println(wrong == 0 ? "all answers are as due" : wrong + " are not as due");
        if (wrong != 0) {
            System.exit(1);
        }
    }
}
