/** A test for each sentence of the document's promises 12 to 21. */
final class PermitsBoundaries {
    private static final int INVALID = Sites.INVALID;
    private static final int IMPOSSIBLE = Sites.IMPOSSIBLE;
    private static final int LIMIT = Sites.LIMIT;
    private static final int NOT_FOUND = Sites.NOT_FOUND;

    private PermitsBoundaries() {
    }

    // ---- 12: covers

    static void promise12TellsWhetherASwingCoversACell() {
        Doc.says("Promise 12", "Tells whether a swing of a crane covers a cell.");
        Run.of("crane(0, 0, 1, 10, 0, 1)", "crane(9, 9, 2, 10, 0, 1)")
                .due("covers(0, 255, 1, 0)", 1).due("covers(0, 255, 0, 1)", 1)
                .due("covers(0, 255, 1, 1)", 0).due("covers(0, 255, 2, 0)", 0)
                .due("covers(1, 255, 11, 9)", 1).due("covers(1, 255, 10, 10)", 1)
                .due("covers(1, 255, 11, 10)", 0).due("covers(1, 1, 11, 9)", 1)
                .due("covers(1, 254, 11, 9)", 0).due("covers(0, 255, 9, 9)", 0);
    }

    static void promise12Crane() {
        Doc.says("Promise 12", "`crane`: number of the crane");
        Sites.takesCranes("covers(#, 255, 0, 0)");
    }

    static void promise12Swing() {
        Doc.says("Promise 12", "`swing`: 1 to 255");
        Sites.oneCrane().range("covers(0, #, 7, 7)", 1, 255).range("covers(0, #, 0, 0)", 1, 255);
    }

    static void promise12X() {
        Doc.says("Promise 12", "`x`: 0 to 15");
        Sites.oneCrane().range("covers(0, 255, #, 7)", 0, 15);
    }

    static void promise12Y() {
        Doc.says("Promise 12", "`y`: 0 to 15");
        Sites.oneCrane().range("covers(0, 255, 7, #)", 0, 15);
    }

    static void promise12Returns1Or0() {
        Doc.says("Promise 12", "Returns 1 or 0;");
        Run run = Run.of("crane(15, 15, 8, 10, 0, 1)");
        int covered = 0;
        for (int cell = 0; cell < 256; cell++) {
            int dx = cell % 16 - 15;
            int dy = cell / 16 - 15;
            int want = dx * dx + dy * dy <= 64 ? 1 : 0;
            run.due("covers(0, 255, " + cell % 16 + ", " + cell / 16 + ")", want);
            covered += want;
        }
        Due.is("the cells of a corner", covered, 58);
    }

    static void promise12InvalidArgument() {
        Doc.says("Promise 12", "INVALID_ARGUMENT if an argument is out of range.");
        Sites.oneCrane().refused("covers(1, 0, 16, 16)", INVALID)
                .refused("covers(0, 0, 0, 0)", INVALID).refused("covers(0, 256, 0, 0)", INVALID)
                .refused("covers(0, 1, -1, 1)", INVALID)
                .refused("covers(0, 1, 16, -1)", INVALID);
    }

    // ---- 13: area

    static void promise13ReturnsTheNumberOfCells() {
        Doc.says("Promise 13", "Returns the number of cells that a swing of a crane covers.");
        Doc.says("Promise 13", "Returns the number;");
        Run.of("crane(0, 0, 8, 10, 0, 1)", "crane(7, 7, 8, 10, 0, 1)", "crane(8, 8, 8, 10, 0, 1)",
                "crane(5, 9, 1, 10, 0, 1)").due("area(0, 16)", 1).due("area(0, 255)", 58)
                .due("area(0, 1)", 27).due("area(0, 2)", 24).due("area(0, 7)", 58).due("area(1, 255)", 195)
                .due("area(2, 255)", 195).due("area(3, 255)", 5).due("area(3, 1)", 2)
                .due("area(3, 2)", 1).due("area(3, 85)", 5).due("area(3, 170)", 1);
    }

    static void promise13Crane() {
        Doc.says("Promise 13", "`crane`: number of the crane");
        Sites.takesCranes("area(#, 255)");
    }

    static void promise13Swing() {
        Doc.says("Promise 13", "`swing`: 1 to 255");
        Sites.oneCrane().range("area(0, #)", 1, 255);
    }

    static void promise13InvalidArgument() {
        Doc.says("Promise 13", "INVALID_ARGUMENT if an argument is out of range.");
        Sites.oneCrane().refused("area(0, 0)", INVALID).refused("area(0, 256)", INVALID)
                .refused("area(1, 1)", INVALID).refused("area(-1, 256)", INVALID);
    }

    // ---- 14: refusal

    static void promise14TellsWhyAnApplicationIsRefused() {
        Doc.says("Promise 14", "Tells why an application is refused.");
        Run run = Sites.neighbours().then("apply(0, 0, 4, 255)", "wind(1, 78)");
        String[] questions = {"refusal(0, 0, 44, 1)", "refusal(1, 1, 0, 1)",
            "refusal(1, 0, 44, 255)", "refusal(2, 0, 7, 1)", "refusal(2, 0, 6, 1)"};
        int[] reasons = {1, 2, 3, 4, 0};
        for (int i = 0; i < questions.length; i++) {
            run.unchanged(questions[i]).due(questions[i], reasons[i]);
        }
    }

    static void promise14Crane() {
        Doc.says("Promise 14", "`crane`: number of the crane");
        Sites.takesCranes("refusal(#, 0, 0, 1)");
    }

    static void promise14Night() {
        Doc.says("Promise 14", "`night`: 0 to 29");
        Sites.oneCrane().range("refusal(0, #, 0, 1)", 0, 29);
    }

    static void promise14Hours() {
        Doc.says("Promise 14", "`hours`: 10 * (the first hour) + (the last one)");
        Sites.takesHours("refusal(0, 0, #, 1)", Sites.oneCrane());
    }

    static void promise14Swing() {
        Doc.says("Promise 14", "`swing`: 1 to 255");
        Sites.oneCrane().range("refusal(0, 0, 0, #)", 1, 255);
    }

    static void promise14ReturnsTheReason() {
        Doc.says("Promise 14", "Returns the reason, 0 if it is not refused;");
        Sites.oneCrane().due("refusal(0, 0, 0, 1)", 0).due("refusal(0, 29, 9, 255)", 0)
                .then("noise(0, 4)").due("refusal(0, 29, 9, 255)", 0).then("noise(0, 5)")
                .due("refusal(0, 29, 9, 255)", 4);
        Sites.valid(24).due("refusal(0, 24, 0, 1)", 0);
        Sites.withdrawn(200).due("refusal(0, 0, 0, 1)", 0);
    }

    static void promise14InvalidArgument() {
        Doc.says("Promise 14", "INVALID_ARGUMENT if an argument is out of range.");
        Sites.valid(1).refused("refusal(1, 0, 0, 1)", INVALID)
                .refused("refusal(0, 30, 0, 1)", INVALID).refused("refusal(0, 0, 10, 1)", INVALID)
                .refused("refusal(0, 0, 0, 0)", INVALID)
                .refused("refusal(-1, -1, -1, -1)", INVALID);
    }

    // ---- 15: apply

    static void promise15AppliesForAPermit() {
        Doc.says("Promise 15", "Applies for a permit.");
        Run run = Sites.farApart().restored("apply(2, 29, 99, 255)");
        run.due("apply(2, 29, 99, 255)", 0).due("permit(0, 0)", 2).due("permit(0, 1)", 29)
                .due("permit(0, 2)", 99).due("permit(0, 3)", 255).due("permit(0, 4)", 9)
                .due("permit(0, 5)", 1).due("street(1, 29, 4)", 9).due("count(7)", 4);
    }

    static void promise15Crane() {
        Doc.says("Promise 15", "`crane`: number of the crane");
        Sites.takesCranes("apply(#, 0, 0, 1)");
    }

    static void promise15Night() {
        Doc.says("Promise 15", "`night`: 0 to 29");
        Sites.oneCrane().range("apply(0, #, 0, 1)", 0, 29);
    }

    static void promise15Hours() {
        Doc.says("Promise 15", "`hours`: 10 * (the first hour) + (the last one)");
        Sites.takesHours("apply(0, 0, #, 1)", Sites.oneCrane());
        Sites.oneCrane().then("apply(0, 0, 9, 1)", "apply(0, 1, 99, 1)", "apply(0, 2, 19, 1)")
                .due("permit(0, 4)", 10).due("permit(1, 4)", 1).due("permit(2, 4)", 9);
    }

    static void promise15Swing() {
        Doc.says("Promise 15", "`swing`: 1 to 255");
        Sites.oneCrane().range("apply(0, 0, 0, #)", 1, 255).then("apply(0, 0, 0, 255)")
                .due("permit(0, 3)", 255);
    }

    static void promise15ReturnsItsNumber() {
        Doc.says("Promise 15", "Returns its number;");
        Sites.oneCrane().due("apply(0, 5, 0, 1)", 0).due("apply(0, 4, 0, 1)", 1)
                .then("withdraw(0)").due("apply(0, 5, 0, 1)", 2).then("undo()")
                .due("apply(0, 3, 0, 1)", 2);
        Sites.withdrawn(199).due("apply(0, 0, 0, 1)", 199);
    }

    static void promise15InvalidArgument() {
        Doc.says("Promise 15", "INVALID_ARGUMENT if an argument is out of range;");
        Sites.valid(1).refused("apply(1, 1, 0, 1)", INVALID)
                .refused("apply(0, 30, 0, 1)", INVALID).refused("apply(0, 1, 10, 1)", INVALID)
                .refused("apply(0, 1, 0, 256)", INVALID)
                .refused("apply(-1, -1, -1, -1)", INVALID);
    }

    static void promise15NotPossibleIfRefusalIsNot0() {
        Doc.says("Promise 15", "NOT_POSSIBLE if refusal() is not 0;");
        Sites.neighbours().then("apply(0, 0, 4, 255)", "wind(1, 78)")
                .refused("apply(0, 0, 44, 1)", IMPOSSIBLE)
                .refused("apply(1, 1, 0, 1)", IMPOSSIBLE)
                .refused("apply(1, 0, 44, 255)", IMPOSSIBLE)
                .refused("apply(2, 0, 7, 1)", IMPOSSIBLE).due("apply(2, 0, 6, 1)", 1);
    }

    static void promise15LimitReachedIf24AreValid() {
        Doc.says("Promise 15", "LIMIT_REACHED if 24 are valid");
        Sites.valid(23).due("apply(0, 29, 0, 1)", 23).refused("apply(0, 28, 0, 1)", LIMIT)
                .then("withdraw(23)").due("apply(0, 28, 0, 1)", 24)
                .refused("apply(0, 29, 0, 1)", LIMIT).then("undo()")
                .due("apply(0, 29, 0, 1)", 24).then("allow(0, 29, 0)")
                .due("apply(0, 28, 0, 1)", 25).refused("apply(0, 27, 0, 1)", LIMIT);
    }

    static void promise15LimitReachedIfNumbersAreUsedUp() {
        Doc.says("Promise 15", "or the numbers are used up.");
        Sites.withdrawn(200).due("count(1)", 0).refused("apply(0, 0, 0, 1)", LIMIT)
                .then("undo()", "undo()", "undo()").due("count(2)", 199).due("count(1)", 1)
                .due("apply(0, 1, 0, 1)", 199).refused("apply(0, 2, 0, 1)", LIMIT);
    }

    // ---- 16: withdraw

    static void promise16WithdrawsAPermit() {
        Doc.says("Promise 16", "Withdraws a permit.");
        Run run = Sites.valid(2).restored("withdraw(0)");
        run.then("withdraw(0)").due("permit(0, 5)", 2).due("permit(1, 5)", 1)
                .due("inOrder(0)", 1).due("refusal(0, 0, 0, 1)", 0).due("count(3)", 1);
    }

    static void promise16Permit() {
        Doc.says("Promise 16", "`permit`: number of the permit");
        Sites.takesPermits("withdraw(#)", Sites.valid(24), 23);
    }

    static void promise16ReturnsTheCreditsThatItUsed() {
        Doc.says("Promise 16", "Returns the credits that it used;");
        Run.of("crane(0, 0, 1, 10, 0, 9)", "crane(9, 9, 1, 10, 1, 1)", "set(1, 90)",
                "apply(0, 29, 9, 255)", "apply(1, 0, 99, 255)", "apply(1, 1, 9, 1)")
                .due("withdraw(0)", 90).due("withdraw(1)", 1).then("noise(1, 9)")
                .due("withdraw(2)", 90);
    }

    static void promise16InvalidArgument() {
        Doc.says("Promise 16", "INVALID_ARGUMENT;");
        Sites.oneCrane().refused("withdraw(0)", INVALID).refused("withdraw(-1)", INVALID);
        Sites.valid(1).refused("withdraw(1)", INVALID);
        Sites.valid(2).then("undo()").refused("withdraw(1)", INVALID);
        Sites.withdrawn(200).refused("withdraw(200)", INVALID)
                .refused("withdraw(199)", IMPOSSIBLE);
    }

    static void promise16NotPossibleIfItIsNotValid() {
        Doc.says("Promise 16", "NOT_POSSIBLE if it is not valid.");
        Sites.valid(3).then("withdraw(0)", "wind(1, 75)").refused("withdraw(0)", IMPOSSIBLE)
                .refused("withdraw(1)", IMPOSSIBLE).due("withdraw(2)", 1)
                .refused("withdraw(2)", IMPOSSIBLE);
    }

    // ---- 17: permit

    /** A valid permit, one withdrawn by a call and one by itself. */
    private static Run threePermits() {
        return Sites.neighbours().then("apply(2, 29, 39, 255)", "apply(0, 0, 0, 1)",
                "apply(1, 8, 99, 128)", "withdraw(1)", "wind(8, 78)");
    }

    static void promise17ReturnsSomethingOfAPermit() {
        Doc.says("Promise 17", "Returns something of a permit.");
        Doc.says("Promise 17", "Returns the number;");
        threePermits().range("permit(0, #)", 0, 5).range("permit(1, #)", 0, 5)
                .range("permit(2, #)", 0, 5);
    }

    static void promise17Permit() {
        Doc.says("Promise 17", "`permit`: number of the permit");
        Sites.takesPermits("permit(#, 0)", threePermits(), 2);
        Sites.takesPermits("permit(#, 5)", Sites.withdrawn(200), 199);
    }

    static void promise17CraneNightHoursSwing() {
        Doc.says("Promise 17", "0: its crane;");
        Doc.says("Promise 17", "1: its night;");
        Doc.says("Promise 17", "2: its hours, as told;");
        Doc.says("Promise 17", "3: its swing;");
        int[][] want = {{2, 29, 39, 255}, {0, 0, 0, 1}, {1, 8, 99, 128}};
        Run run = threePermits();
        for (int permit = 0; permit <= 2; permit++) {
            for (int what = 0; what <= 3; what++) {
                run.due("permit(" + permit + ", " + what + ")", want[permit][what]);
            }
        }
    }

    static void promise17CreditsThatItUsesOrWouldUse() {
        Doc.says("Promise 17", "4: the credits that it uses, or would use;");
        threePermits().due("permit(0, 4)", 28).due("permit(1, 4)", 2).due("permit(2, 4)", 3)
                .then("noise(0, 9)", "noise(1, 1)", "noise(2, 5)").due("permit(0, 4)", 35)
                .due("permit(1, 4)", 9).due("permit(2, 4)", 1);
        Run.of("crane(0, 0, 1, 10, 0, 1)", "apply(0, 0, 9, 1)", "noise(0, 9)")
                .due("permit(0, 5)", 3).due("permit(0, 4)", 90);
    }

    static void promise17State() {
        Doc.says("Promise 17", "5: 1 if it is valid, 2 if it was withdrawn by a call, 3 if by itself");
        threePermits().due("permit(0, 5)", 1).due("permit(1, 5)", 2).due("permit(2, 5)", 3)
                .then("undo()").due("permit(2, 5)", 1).then("undo()").due("permit(1, 5)", 1);
    }

    static void promise17InvalidArgument() {
        Doc.says("Promise 17", "INVALID_ARGUMENT if an argument is out of range.");
        threePermits().refused("permit(-1, 0)", INVALID).refused("permit(3, 0)", INVALID)
                .refused("permit(0, -1)", INVALID).refused("permit(0, 6)", INVALID)
                .refused("permit(3, 6)", INVALID);
    }

    // ---- 18: inOrder

    static void promise18ByNightsByFirstHoursByNumbers() {
        Doc.says("Promise 18", "Returns a valid permit, by nights, then by first hours, then by"
                + " numbers.");
        Run run = Sites.eightCranes().then("apply(0, 29, 0, 1)", "apply(0, 5, 99, 1)",
                "apply(1, 5, 9, 1)", "apply(2, 5, 0, 1)", "apply(3, 5, 89, 1)",
                "apply(4, 0, 99, 1)", "apply(5, 5, 88, 1)", "apply(6, 5, 8, 1)");
        int[] want = {5, 2, 3, 7, 4, 6, 1, 0};
        for (int index = 0; index < want.length; index++) {
            run.due("inOrder(" + index + ")", want[index]);
        }
    }

    static void promise18Index() {
        Doc.says("Promise 18", "`index`: 0 for the first one, and so on");
        Run run = Sites.oneCrane();
        for (int permit = 0; permit < 24; permit++) {
            run.then("apply(0, " + (29 - permit) + ", 0, 1)");
        }
        for (int index = 0; index < 24; index++) {
            run.due("inOrder(" + index + ")", 23 - index);
        }
        run.refused("inOrder(24)", NOT_FOUND);
        run.then("withdraw(23)").due("inOrder(0)", 22).due("inOrder(22)", 0)
                .refused("inOrder(23)", NOT_FOUND);
    }

    static void promise18ReturnsValidPermits() {
        Doc.says("Promise 18", "Returns the permit;");
        Sites.valid(4).then("withdraw(1)", "wind(2, 75)").due("inOrder(0)", 0)
                .due("inOrder(1)", 3).refused("inOrder(2)", NOT_FOUND).then("undo()")
                .due("inOrder(1)", 2).due("inOrder(2)", 3);
    }

    static void promise18InvalidArgumentIfNegative() {
        Doc.says("Promise 18", "INVALID_ARGUMENT if index is negative;");
        Sites.oneCrane().refused("inOrder(-1)", INVALID);
        Sites.valid(24).refused("inOrder(-1)", INVALID).refused("inOrder(-24)", INVALID)
                .refused("inOrder(" + Integer.MIN_VALUE + ")", INVALID);
    }

    static void promise18NotFoundIfThereAreNotSoMany() {
        Doc.says("Promise 18", "NOT_FOUND if there are not so many.");
        Sites.oneCrane().refused("inOrder(0)", NOT_FOUND);
        Sites.valid(1).due("inOrder(0)", 0).refused("inOrder(1)", NOT_FOUND)
                .refused("inOrder(" + Integer.MAX_VALUE + ")", NOT_FOUND)
                .then("withdraw(0)").refused("inOrder(0)", NOT_FOUND);
        Sites.valid(24).due("inOrder(23)", 23).refused("inOrder(24)", NOT_FOUND);
    }

    // ---- 19: shares

    static void promise19TellsWhetherTwoPermitsShareAir() {
        Doc.says("Promise 19", "Tells whether two permits share air, or would, if both were valid.");
        Doc.says("Promise 19", "Returns 1 or 0;");
        Sites.neighbours().then("apply(0, 0, 4, 255)", "withdraw(0)", "apply(1, 0, 49, 255)")
                .due("shares(0, 1)", 1).due("shares(1, 0)", 1).due("count(6)", 0)
                .then("wind(0, 99)").due("permit(1, 5)", 3).due("shares(0, 1)", 1)
                .then("set(2, 4)").due("shares(0, 1)", 0).then("set(2, 5)")
                .due("shares(0, 1)", 1);
        Sites.neighbours().then("set(2, 0)", "apply(0, 0, 4, 255)", "apply(1, 0, 4, 255)",
                "set(2, 5)").due("shares(0, 1)", 1).due("count(6)", 1);
    }

    static void promise19Numbers() {
        Doc.says("Promise 19", "`one`: number of a permit");
        Doc.says("Promise 19", "`other`: number of a permit");
        Sites.takesPermits("shares(#, 0)", threePermits(), 2);
        Sites.takesPermits("shares(0, #)", threePermits(), 2);
    }

    static void promise19AlsoOfOnePermitTwice() {
        Doc.says("Promise 19", "Returns 1 or 0;");
        threePermits().due("shares(0, 0)", 0).due("shares(1, 1)", 0).due("shares(2, 2)", 0);
    }

    static void promise19InvalidArgument() {
        Doc.says("Promise 19", "INVALID_ARGUMENT.");
        threePermits().refused("shares(-1, 0)", INVALID).refused("shares(0, -1)", INVALID)
                .refused("shares(3, 0)", INVALID).refused("shares(0, 3)", INVALID)
                .refused("shares(3, 3)", INVALID);
    }

    // ---- 20: inTheWay

    /** Permits 0 of crane 2 (far up), 1 and 2 of crane 1, the later hours first, 3 of crane 3. */
    private static Run inTheWay() {
        return Sites.neighbours().then("crane(8, 8, 3, 42, 2, 1)", "apply(2, 0, 9, 255)",
                "apply(1, 0, 56, 255)", "apply(1, 0, 3, 255)", "apply(3, 0, 77, 255)");
    }

    static void promise20ReturnsTheLowestValidPermit() {
        Doc.says("Promise 20", "Returns the lowest valid permit with which an application would share"
                + " air.");
        Run run = inTheWay();
        run.unchanged("inTheWay(0, 0, 9, 255)").due("inTheWay(0, 0, 9, 255)", 1)
                .due("inTheWay(0, 0, 4, 255)", 2).due("inTheWay(0, 0, 79, 255)", 3)
                .due("inTheWay(3, 0, 9, 255)", 1).then("set(2, 21)")
                .due("inTheWay(0, 0, 9, 255)", 0).then("withdraw(0)")
                .due("inTheWay(0, 0, 9, 255)", 1).then("wind(0, 78)")
                .due("inTheWay(0, 0, 9, 255)", 3).then("undo()", "undo()")
                .due("inTheWay(0, 0, 9, 255)", 0);
    }

    static void promise20OfRefusedApplicationsToo() {
        Doc.says("Promise 20", "Returns the lowest valid permit with which an application would share"
                + " air.");
        inTheWay().then("allow(0, 0, 42)", "apply(0, 0, 44, 255)").due("refusal(0, 0, 4, 255)", 1)
                .due("inTheWay(0, 0, 4, 255)", 2);
    }

    static void promise20Crane() {
        Doc.says("Promise 20", "`crane`: number of the crane");
        inTheWay().range("inTheWay(#, 0, 9, 255)", 0, 3);
    }

    static void promise20Night() {
        Doc.says("Promise 20", "`night`: 0 to 29");
        inTheWay().due("inTheWay(0, 0, 9, 255)", 1).due("inTheWay(0, 29, 9, 255)", NOT_FOUND)
                .due("inTheWay(0, 1, 9, 255)", NOT_FOUND)
                .refused("inTheWay(0, 30, 9, 255)", INVALID)
                .refused("inTheWay(0, -1, 9, 255)", INVALID);
        Sites.neighbours().then("apply(1, 29, 9, 255)").due("inTheWay(0, 29, 99, 255)", 0)
                .due("inTheWay(0, 28, 99, 255)", NOT_FOUND);
    }

    static void promise20Hours() {
        Doc.says("Promise 20", "`hours`: 10 * (the first hour) + (the last one)");
        Sites.takesHours("inTheWay(0, 0, #, 255)", Sites.neighbours().then("apply(1, 0, 9, 255)"));
        inTheWay().due("inTheWay(0, 0, 0, 255)", 2).due("inTheWay(0, 0, 33, 255)", 2)
                .due("inTheWay(0, 0, 44, 255)", NOT_FOUND).due("inTheWay(0, 0, 46, 255)", 1)
                .due("inTheWay(0, 0, 36, 255)", 1).due("inTheWay(0, 0, 77, 255)", 3)
                .due("inTheWay(0, 0, 89, 255)", NOT_FOUND);
    }

    static void promise20Swing() {
        Doc.says("Promise 20", "`swing`: 1 to 255");
        Sites.neighbours().then("apply(1, 0, 9, 255)").due("inTheWay(0, 0, 0, 1)", 0)
                .due("inTheWay(0, 0, 0, 255)", 0).due("inTheWay(0, 0, 0, 16)", NOT_FOUND)
                .refused("inTheWay(0, 0, 0, 0)", INVALID)
                .refused("inTheWay(0, 0, 0, 256)", INVALID)
                .refused("inTheWay(0, 0, 0, -1)", INVALID);
    }

    static void promise20InvalidArgument() {
        Doc.says("Promise 20", "Returns the permit;");
        Doc.says("Promise 20", "INVALID_ARGUMENT if an argument is out of range;");
        inTheWay().refused("inTheWay(4, 0, 9, 255)", INVALID)
                .refused("inTheWay(-1, 0, 9, 255)", INVALID)
                .refused("inTheWay(0, 0, 90, 255)", INVALID)
                .refused("inTheWay(-1, -1, -1, 0)", INVALID);
    }

    static void promise20NotFoundIfThereIsNone() {
        Doc.says("Promise 20", "NOT_FOUND if there is none.");
        Sites.neighbours().refused("inTheWay(0, 0, 9, 255)", NOT_FOUND)
                .then("apply(0, 0, 9, 255)").refused("inTheWay(0, 0, 9, 255)", NOT_FOUND)
                .refused("inTheWay(2, 0, 9, 255)", NOT_FOUND).due("inTheWay(1, 0, 9, 255)", 0)
                .then("withdraw(0)").refused("inTheWay(1, 0, 9, 255)", NOT_FOUND);
    }

    // ---- 21: firstFree

    static void promise21ReturnsTheFirstTime() {
        Doc.says("Promise 21", "Returns the first time at which an application for some hours of one"
                + " night would not be refused");
        Run run = Sites.oneCrane().then("apply(0, 0, 3, 1)", "apply(0, 0, 78, 1)",
                "apply(0, 1, 11, 1)");
        run.unchanged("firstFree(0, 1, 3, 0)").due("firstFree(0, 1, 1, 0)", 4)
                .due("firstFree(0, 1, 3, 0)", 4).due("firstFree(0, 1, 4, 0)", 12)
                .due("firstFree(0, 1, 8, 0)", 12).due("firstFree(0, 1, 9, 0)", 20)
                .due("firstFree(0, 1, 10, 0)", 20).then("wind(2, 75)")
                .due("firstFree(0, 1, 9, 0)", 30).then("allow(0, 3, 8)")
                .due("firstFree(0, 1, 9, 0)", 40).due("firstFree(0, 1, 8, 2)", 30);
    }

    static void promise21HoursOfOneNight() {
        Doc.says("Promise 21", "for some hours of one night");
        Sites.oneCrane().then("apply(0, 0, 7, 1)").due("firstFree(0, 1, 2, 0)", 8)
                .due("firstFree(0, 1, 3, 0)", 10).then("apply(0, 0, 88, 1)")
                .due("firstFree(0, 1, 1, 0)", 9).due("firstFree(0, 1, 2, 0)", 10);
    }

    static void promise21WhetherThereIsRoomOrNot() {
        Doc.says("Promise 21", "whether there is room or not.");
        Sites.valid(24).due("firstFree(0, 1, 10, 0)", 240).due("firstFree(0, 1, 9, 0)", 1)
                .refused("apply(0, 24, 9, 1)", LIMIT);
        Sites.withdrawn(200).due("firstFree(0, 1, 10, 0)", 0)
                .refused("apply(0, 0, 9, 1)", LIMIT);
    }

    static void promise21Crane() {
        Doc.says("Promise 21", "`crane`: number of the crane");
        Sites.takesCranes("firstFree(#, 1, 1, 0)");
    }

    static void promise21Swing() {
        Doc.says("Promise 21", "`swing`: 1 to 255");
        Sites.oneCrane().range("firstFree(0, #, 1, 0)", 1, 255);
        Sites.neighbours().then("apply(0, 0, 8, 255)").due("firstFree(1, 255, 1, 0)", 9)
                .due("firstFree(1, 1, 1, 0)", 0).due("firstFree(1, 16, 1, 0)", 9);
    }

    static void promise21Many1To10Hours() {
        Doc.says("Promise 21", "`many`: 1 to 10 hours");
        Sites.oneCrane().range("firstFree(0, 1, #, 0)", 1, 10)
                .range("firstFree(0, 1, #, 29)", 1, 10).due("firstFree(0, 1, 10, 29)", 290)
                .refused("firstFree(0, 1, 11, 29)", INVALID);
    }

    static void promise21From() {
        Doc.says("Promise 21", "`from`: 0 to 29: the first night that is looked at");
        Run run = Sites.oneCrane().range("firstFree(0, 1, 1, #)", 0, 29);
        for (int night = 0; night < 30; night++) {
            run.due("firstFree(0, 255, 10, " + night + ")", 10 * night);
        }
    }

    static void promise21ReturnsNightAndHour() {
        Doc.says("Promise 21", "Returns 10 * (the night) + (the first hour);");
        Sites.oneCrane().due("firstFree(0, 1, 1, 0)", 0).then("apply(0, 29, 8, 1)")
                .due("firstFree(0, 1, 1, 29)", 299).due("firstFree(0, 1, 1, 28)", 280)
                .then("apply(0, 28, 9, 1)").due("firstFree(0, 1, 1, 28)", 299);
    }

    static void promise21InvalidArgument() {
        Doc.says("Promise 21", "INVALID_ARGUMENT if an argument is out of range;");
        Sites.oneCrane().refused("firstFree(1, 1, 1, 0)", INVALID)
                .refused("firstFree(0, 0, 1, 0)", INVALID)
                .refused("firstFree(0, 1, 0, 0)", INVALID)
                .refused("firstFree(0, 1, 11, 0)", INVALID)
                .refused("firstFree(0, 1, 1, 30)", INVALID)
                .refused("firstFree(0, 1, 1, -1)", INVALID)
                .refused("firstFree(-1, 256, -1, 30)", INVALID);
    }

    static void promise21NotFoundIfThereIsNone() {
        Doc.says("Promise 21", "NOT_FOUND if there is none.");
        Sites.oneCrane().then("apply(0, 29, 9, 1)").refused("firstFree(0, 1, 1, 29)", NOT_FOUND)
                .then("withdraw(0)", "apply(0, 29, 99, 1)").due("firstFree(0, 1, 9, 29)", 290)
                .refused("firstFree(0, 1, 10, 29)", NOT_FOUND).then("set(1, 0)")
                .refused("firstFree(0, 1, 1, 0)", NOT_FOUND).then("allow(0, 29, 1)")
                .due("firstFree(0, 1, 1, 0)", 290).refused("firstFree(0, 1, 2, 0)", NOT_FOUND);
        Run.of("crane(0, 0, 1, 10, 0, 5)").due("firstFree(0, 1, 8, 0)", 0)
                .refused("firstFree(0, 1, 9, 0)", NOT_FOUND);
    }
}
