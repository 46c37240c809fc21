/** Where the tests of the document's sentences begin: runs of calls, and checks they share. */
final class Sites {
    static final int INVALID = CranePermits.INVALID_ARGUMENT;
    static final int IMPOSSIBLE = CranePermits.NOT_POSSIBLE;
    static final int LIMIT = CranePermits.LIMIT_REACHED;
    static final int NOT_FOUND = CranePermits.NOT_FOUND;

    private Sites() {
    }

    static Run oneCrane() {
        return Run.of("crane(7, 7, 8, 50, 0, 1)");
    }

    /** Cranes 0 and 1 of street 0, noise 4 each, and crane 2 of street 1, noise 9; stops at 85. */
    static Run farApart() {
        return Run.of("crane(1, 1, 2, 30, 0, 4)", "crane(14, 14, 2, 30, 0, 4)",
                "crane(1, 14, 2, 30, 1, 9)");
    }

    /** Cranes 0 and 1 with air in common, crane 2 in the same air but higher up. */
    static Run neighbours() {
        return Run.of("crane(4, 4, 3, 40, 0, 2)", "crane(8, 4, 3, 44, 1, 3)",
                "crane(6, 6, 3, 60, 0, 4)");
    }

    /** Eight cranes, no two of which have a cell in common. */
    static Run eightCranes() {
        Run run = Run.of();
        for (int crane = 0; crane < 8; crane++) {
            run.then("crane(" + (4 * (crane % 4) + 1) + ", " + (8 * (crane / 4) + 3)
                    + ", 1, 50, " + crane % 4 + ", 1)");
        }
        return run;
    }

    /** One crane of noise 1 in street 0 with so many valid permits, each at hour 0 of a night. */
    static Run valid(int permits) {
        Run run = oneCrane();
        for (int night = 0; night < permits; night++) {
            run.then("apply(0, " + night + ", 0, 1)");
        }
        return run;
    }

    /** One crane and so many permits, all of them withdrawn by calls. */
    static Run withdrawn(int permits) {
        Run run = oneCrane();
        for (int permit = 0; permit < permits; permit++) {
            run.then("apply(0, 0, 0, 1)", "withdraw(" + permit + ")");
        }
        return run;
    }

    /** Something of everything, four states in the history, and a text with a fault. */
    static Run ofEverything() {
        return neighbours()
                .then("apply(0, 3, 24, 255)", "apply(1, 3, 55, 255)", "apply(2, 3, 0, 7)",
                        "apply(0, 4, 9, 255)", "withdraw(1)", "wind(5, 20)", "allow(1, 3, 60)",
                        "transfer(0, 2, 3, 5)", "set(2, 6)", "wind(4, 80)", "noise(2, 3)",
                        "apply(1, 6, 77, 9)")
                .write("0n3h2-2s1;");
    }

    /** # stands for the number of a crane: of 0 to 7 if there are 8, of none if there is none. */
    static void takesCranes(String call) {
        Run none = Run.of();
        none.refused(Run.with(call, 0), INVALID);
        none.refused(Run.with(call, -1), INVALID);
        oneCrane().range(call, 0, 0);
        eightCranes().range(call, 0, 7);
        eightCranes().then("undo()").range(call, 0, 6);
    }

    /** # stands for the number of a permit, granted ever; those of the run are 0 to the last. */
    static void takesPermits(String call, Run run, int last) {
        Run none = oneCrane();
        none.refused(Run.with(call, 0), INVALID);
        none.refused(Run.with(call, -1), INVALID);
        run.range(call, 0, last);
    }

    /** # stands for hours: of those from 0 to 99 just the ones whose second hour isn't less. */
    static void takesHours(String call, Run run) {
        run.range(call, 0, 99);
        for (int hours = 0; hours <= 99; hours++) {
            String told = Run.with(call, hours);
            if (hours / 10 > hours % 10) {
                run.refused(told, INVALID);
            } else {
                long answer = run.again().ask(told);
                Due.is("whether " + told + " is refused", answer == INVALID ? 1 : 0, 0);
            }
        }
        run.refused(Run.with(call, 109), INVALID).refused(Run.with(call, -11), INVALID);
    }
}
