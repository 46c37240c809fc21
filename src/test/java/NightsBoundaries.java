/** A test for each sentence of the document's promises 1 to 11. */
final class NightsBoundaries {
    private static final int INVALID = Sites.INVALID;
    private static final int IMPOSSIBLE = Sites.IMPOSSIBLE;
    private static final int LIMIT = Sites.LIMIT;
    private static final int NOT_FOUND = Sites.NOT_FOUND;

    private NightsBoundaries() {
    }

    static void promise01NewObjectWithoutCranes() {
        Doc.says("Promise 1", "Creates a ground without cranes.");
        Run run = Run.of();
        int[] counts = {0, 0, 0, 0, 0, 0, 0, 0, 0, INVALID, 100, 40, 5};
        for (int what = 0; what < counts.length; what++) {
            run.due("count(" + what + ")", counts[what]);
        }
        String[] invalid = {"craneOf(0, 0)", "noise(0, 1)", "covers(0, 1, 0, 0)", "area(0, 1)",
            "refusal(0, 0, 0, 1)", "apply(0, 0, 0, 1)", "inTheWay(0, 0, 0, 1)",
            "firstFree(0, 1, 1, 0)", "permit(0, 0)", "withdraw(0)", "shares(0, 0)"};
        for (String call : invalid) {
            run.refused(call, INVALID);
        }
        run.refused("inOrder(0)", NOT_FOUND).refused("fault(0)", NOT_FOUND)
                .refused("fault(1)", NOT_FOUND).refused("undo()", IMPOSSIBLE);
        run.wouldAnswer("clearText()", 0).wouldAnswer("enter()", 0);
        for (int night = 0; night < 30; night++) {
            run.due("street(0, " + night + ", 3)", 40).due("street(3, " + night + ", 4)", 0)
                    .due("street(1, " + night + ", 6)", 0);
        }
    }

    // ---- 2: crane

    static void promise02SetsUpACrane() {
        Doc.says("Promise 2", "Sets up a crane.");
        Run run = Run.of("crane(3, 12, 5, 77, 2, 6)", "crane(12, 3, 4, 33, 1, 7)");
        int[] want = {3, 12, 5, 77, 2, 6, 0, 62};
        for (int what = 0; what < want.length; what++) {
            run.due("craneOf(0, " + what + ")", want[what]);
        }
        run.due("craneOf(1, 0)", 12).due("craneOf(1, 1)", 3).due("count(0)", 2);
        run.restored("crane(0, 0, 1, 10, 0, 1)");
    }

    /** One argument of crane(), in place of #, which craneOf() tells again. */
    private static void craneTells(String call, int what, int least, int most) {
        Run.of().range(call, least, most);
        for (int value = least; value <= most; value++) {
            Run.of(Run.with(call, value)).due("craneOf(0, " + what + ")", value);
        }
    }

    static void promise02X() {
        Doc.says("Promise 2", "`x`: 0 to 15");
        craneTells("crane(#, 7, 4, 50, 1, 5)", 0, 0, 15);
    }

    static void promise02Y() {
        Doc.says("Promise 2", "`y`: 0 to 15");
        craneTells("crane(7, #, 4, 50, 1, 5)", 1, 0, 15);
    }

    static void promise02Reach() {
        Doc.says("Promise 2", "`reach`: 1 to 8");
        craneTells("crane(7, 7, #, 50, 1, 5)", 2, 1, 8);
        Run.of("crane(7, 7, 1, 50, 1, 5)").due("covers(0, 1, 8, 7)", 1)
                .due("covers(0, 1, 9, 7)", 0);
        Run.of("crane(7, 7, 8, 50, 1, 5)").due("covers(0, 1, 15, 7)", 1);
    }

    static void promise02Height() {
        Doc.says("Promise 2", "`height`: 10 to 99");
        craneTells("crane(7, 7, 4, #, 1, 5)", 3, 10, 99);
    }

    static void promise02Street() {
        Doc.says("Promise 2", "`street`: 0 to 3");
        craneTells("crane(7, 7, 4, 50, #, 5)", 4, 0, 3);
        for (int street = 0; street <= 3; street++) {
            Run run = Run.of("crane(7, 7, 4, 50, " + street + ", 5)", "apply(0, 9, 0, 1)");
            for (int other = 0; other <= 3; other++) {
                run.due("street(" + other + ", 9, 4)", other == street ? 5 : 0);
            }
        }
    }

    static void promise02Noise() {
        Doc.says("Promise 2", "`noise`: 1 to 9");
        craneTells("crane(7, 7, 4, 50, 1, #)", 5, 1, 9);
    }

    static void promise02ReturnsItsNumber() {
        Doc.says("Promise 2", "Returns its number;");
        Run run = Run.of();
        for (int crane = 0; crane < 8; crane++) {
            run.due("crane(15, " + 2 * crane + ", 1, 10, 0, 1)", crane);
        }
        run.then("undo()", "undo()").due("crane(0, 0, 1, 10, 0, 1)", 6).due("craneOf(6, 0)", 0)
                .due("crane(0, 1, 1, 10, 0, 1)", 7);
    }

    static void promise02InvalidArgument() {
        Doc.says("Promise 2", "INVALID_ARGUMENT if an argument is out of range;");
        Run.of().refused("crane(-1, -1, 0, 9, -1, 0)", INVALID)
                .refused("crane(16, 16, 9, 100, 4, 10)", INVALID);
    }

    static void promise02NotPossibleInATakenCell() {
        Doc.says("Promise 2", "NOT_POSSIBLE if a crane is in this cell;");
        Run run = Run.of("crane(0, 0, 1, 10, 0, 1)", "crane(15, 15, 1, 10, 0, 1)");
        run.refused("crane(0, 0, 1, 10, 0, 1)", IMPOSSIBLE)
                .refused("crane(15, 15, 8, 99, 3, 9)", IMPOSSIBLE);
        run.due("crane(0, 15, 1, 10, 0, 1)", 2).due("crane(15, 0, 1, 10, 0, 1)", 3);
        run.then("undo()").refused("crane(0, 15, 1, 10, 0, 1)", IMPOSSIBLE)
                .due("crane(15, 0, 1, 10, 0, 1)", 3);
    }

    static void promise02LimitReachedIfThereAre8() {
        Doc.says("Promise 2", "LIMIT_REACHED if there are 8.");
        Run run = Sites.eightCranes().due("count(0)", 8);
        run.refused("crane(0, 0, 1, 10, 0, 1)", LIMIT)
                .refused("crane(15, 15, 8, 99, 3, 9)", LIMIT);
        run.then("undo()").due("crane(0, 0, 1, 10, 0, 1)", 7)
                .refused("crane(15, 15, 8, 99, 3, 9)", LIMIT);
    }

    // ---- 3: noise

    static void promise03ForAllItsPermitsToo() {
        Doc.says("Promise 3", "Sets the noise of a crane, for all its permits, too.");
        Sites.farApart().then("apply(0, 0, 3, 255)", "apply(0, 1, 0, 255)", "withdraw(1)",
                "apply(1, 0, 44, 255)", "apply(0, 29, 1, 255)").due("noise(0, 9)", 0)
                .due("craneOf(0, 5)", 9).due("craneOf(1, 5)", 4).due("permit(0, 4)", 36)
                .due("permit(1, 4)", 9).due("permit(2, 4)", 4).due("permit(3, 4)", 18)
                .due("street(0, 0, 4)", 40).due("street(0, 29, 4)", 18).due("count(5)", 58);
    }

    static void promise03Crane() {
        Doc.says("Promise 3", "`crane`: number of the crane");
        Sites.takesCranes("noise(#, 5)");
    }

    static void promise03Noise() {
        Doc.says("Promise 3", "`noise`: 1 to 9");
        Run run = Sites.oneCrane().range("noise(0, #)", 1, 9);
        for (int noise = 1; noise <= 9; noise++) {
            run.due("noise(0, " + noise + ")", 0).due("craneOf(0, 5)", noise);
        }
    }

    static void promise03ReturnsHowManyAreWithdrawn() {
        Doc.says("Promise 3", "Returns how many permits are withdrawn by this;");
        Run run = Sites.oneCrane();
        for (int night = 6; night < 30; night++) {
            run.then("apply(0, " + night + ", 8, 1)");
        }
        run.due("noise(0, 4)", 0).due("count(1)", 24).due("street(0, 6, 4)", 36);
        run.wouldAnswer("noise(0, 5)", 24).wouldAnswer("noise(0, 9)", 24);
        run.then("allow(0, 29, 45)").wouldAnswer("noise(0, 5)", 23)
                .wouldAnswer("noise(0, 6)", 24);
        run.then("noise(0, 5)").due("count(4)", 23).due("count(1)", 1).due("inOrder(0)", 23);
    }

    static void promise03WithdrawsOfOtherCranesToo() {
        Doc.says("Promise 3", "Returns how many permits are withdrawn by this;");
        Run run = Sites.farApart().then("apply(0, 0, 3, 1)", "apply(1, 0, 58, 1)");
        run.due("noise(0, 6)", 0).due("street(0, 0, 4)", 40).due("noise(0, 7)", 1)
                .due("permit(0, 5)", 1).due("permit(1, 5)", 3);
    }

    static void promise03InvalidArgument() {
        Doc.says("Promise 3", "INVALID_ARGUMENT if an argument is out of range.");
        Sites.oneCrane().refused("noise(0, 0)", INVALID).refused("noise(0, 10)", INVALID)
                .refused("noise(-1, 1)", INVALID).refused("noise(1, 1)", INVALID)
                .refused("noise(-1, 0)", INVALID);
    }

    // ---- 4: craneOf

    static void promise04Crane() {
        Doc.says("Promise 4", "`crane`: number of the crane");
        Sites.takesCranes("craneOf(#, 0)");
        Sites.takesCranes("craneOf(#, 7)");
    }

    static void promise04What0To7() {
        Doc.says("Promise 4", "Returns something of a crane.");
        Sites.oneCrane().range("craneOf(0, #)", 0, 7);
        Sites.eightCranes().range("craneOf(7, #)", 0, 7);
    }

    static void promise04Place() {
        Doc.says("Promise 4", "0: x;");
        Doc.says("Promise 4", "1: y;");
        Run.of("crane(0, 15, 1, 10, 0, 1)", "crane(15, 0, 1, 10, 0, 1)").due("craneOf(0, 0)", 0)
                .due("craneOf(0, 1)", 15).due("craneOf(1, 0)", 15).due("craneOf(1, 1)", 0);
    }

    static void promise04ReachHeightStreetNoise() {
        Doc.says("Promise 4", "2: its reach;");
        Doc.says("Promise 4", "3: its height;");
        Doc.says("Promise 4", "4: its street;");
        Doc.says("Promise 4", "5: its noise;");
        Run.of("crane(0, 15, 1, 10, 0, 1)", "crane(15, 0, 8, 99, 3, 9)").due("craneOf(0, 2)", 1)
                .due("craneOf(0, 3)", 10).due("craneOf(0, 4)", 0).due("craneOf(0, 5)", 1)
                .due("craneOf(1, 2)", 8).due("craneOf(1, 3)", 99).due("craneOf(1, 4)", 3)
                .due("craneOf(1, 5)", 9).then("noise(1, 1)").due("craneOf(1, 5)", 1);
    }

    static void promise04ValidPermits() {
        Doc.says("Promise 4", "6: valid permits;");
        Sites.oneCrane().due("craneOf(0, 6)", 0);
        Sites.valid(24).due("craneOf(0, 6)", 24).then("withdraw(23)").due("craneOf(0, 6)", 23)
                .then("wind(0, 75)").due("craneOf(0, 6)", 22).then("undo()")
                .due("craneOf(0, 6)", 23).then("crane(0, 0, 1, 10, 1, 1)")
                .due("craneOf(1, 6)", 0).then("apply(1, 0, 0, 32)").due("craneOf(1, 6)", 1)
                .due("craneOf(0, 6)", 23);
    }

    static void promise04LeastWindOfStop() {
        Doc.says("Promise 4", "7: the least wind at which it must stop");
        Run.of("crane(0, 0, 1, 99, 0, 1)", "set(0, 50)").due("craneOf(0, 7)", 1)
                .due("refusal(0, 0, 0, 1)", 0).then("wind(0, 1)").due("refusal(0, 0, 0, 1)", 2);
        Run.of("crane(0, 0, 1, 10, 0, 1)", "set(0, 150)").due("craneOf(0, 7)", 145)
                .then("wind(0, 99)").due("refusal(0, 0, 0, 1)", 0);
        Run.of("crane(0, 0, 1, 10, 0, 1)", "set(0, 104)").due("craneOf(0, 7)", 99)
                .then("wind(0, 98)").due("refusal(0, 0, 0, 1)", 0).then("wind(0, 99)")
                .due("refusal(0, 0, 0, 1)", 2).then("set(0, 105)").due("craneOf(0, 7)", 100)
                .due("refusal(0, 0, 0, 1)", 0);
    }

    static void promise04ReturnsTheNumberOrInvalidArgument() {
        Doc.says("Promise 4", "Returns the number;");
        Doc.says("Promise 4", "INVALID_ARGUMENT if an argument is out of range.");
        Sites.oneCrane().refused("craneOf(0, -1)", INVALID).refused("craneOf(0, 8)", INVALID)
                .refused("craneOf(1, 0)", INVALID).refused("craneOf(-1, 0)", INVALID)
                .refused("craneOf(1, 8)", INVALID);
    }

    // ---- 5: set

    static void promise05What0To2() {
        Doc.says("Promise 5", "Sets a setting.");
        Run.of().range("set(#, 50)", 0, 2);
        Run.of("set(0, 60)", "set(1, 61)", "set(2, 49)").due("count(10)", 60)
                .due("count(11)", 61).due("count(12)", 49);
        for (int what = 0; what <= 2; what++) {
            Run.of("wind(0, 1)").restored("set(" + what + ", 50)");
        }
    }

    static void promise05Stop() {
        Doc.says("Promise 5", "0: the stop (50 to 150);");
        Run.of().range("set(0, #)", 50, 150);
        Run.of("set(0, 50)").due("count(10)", 50).then("set(0, 150)").due("count(10)", 150)
                .due("count(11)", 40).due("count(12)", 5);
    }

    static void promise05Allowance() {
        Doc.says("Promise 5", "1: the allowance of nights and streets for which none was set"
                + " (0 to 200);");
        Run.of().range("set(1, #)", 0, 200);
        Run.of("allow(3, 29, 200)", "allow(0, 0, 0)", "set(1, 0)").due("count(11)", 0)
                .due("street(3, 29, 0)", 200).due("street(3, 28, 0)", 0)
                .due("street(2, 29, 0)", 0).then("set(1, 200)").due("street(0, 0, 0)", 0)
                .due("street(0, 1, 0)", 200).due("street(1, 0, 0)", 200)
                .due("count(10)", 100).due("count(12)", 5);
    }

    static void promise05Clearance() {
        Doc.says("Promise 5", "2: the clearance (0 to 50;");
        Run.of().range("set(2, #)", 0, 50);
        Run.of("set(2, 0)").due("count(12)", 0).then("set(2, 50)").due("count(12)", 50)
                .due("count(10)", 100).due("count(11)", 40);
    }

    static void promise05ClearanceLeavesValidPermits() {
        Doc.says("Promise 5", "valid permits stay)");
        Run run = Run.of("crane(4, 4, 3, 40, 0, 1)", "crane(5, 4, 3, 89, 1, 1)",
                "apply(0, 0, 9, 255)", "apply(1, 0, 9, 255)").due("count(6)", 0);
        run.due("set(2, 50)", 0).due("permit(0, 5)", 1).due("permit(1, 5)", 1)
                .due("count(6)", 1).due("count(1)", 2).due("shares(0, 1)", 1);
        run.then("wind(1, 99)", "allow(0, 2, 0)", "noise(0, 4)").due("count(1)", 2)
                .due("set(2, 49)", 0).due("count(6)", 0);
    }

    static void promise05ValueInItsRange() {
        Doc.says("Promise 5", "`value`: a value in its range");
        Run.of().refused("set(0, 0)", INVALID).refused("set(0, 49)", INVALID)
                .refused("set(0, 200)", INVALID).refused("set(2, 150)", INVALID)
                .refused("set(2, 51)", INVALID).refused("set(1, 201)", INVALID)
                .refused("set(1, -1)", INVALID).refused("set(2, -1)", INVALID);
    }

    static void promise05ReturnsHowManyTheStopWithdraws() {
        Doc.says("Promise 5", "Returns how many permits are withdrawn by this;");
        Run run = Sites.valid(24);
        for (int night = 0; night < 23; night++) {
            run.then("wind(" + night + ", 30)");
        }
        run.wouldAnswer("set(0, 56)", 0).wouldAnswer("set(0, 55)", 23);
        run.then("wind(23, 29)").wouldAnswer("set(0, 55)", 23).wouldAnswer("set(0, 54)", 24);
        run.then("set(0, 50)").due("count(1)", 0).due("count(4)", 24).due("set(0, 50)", 0);
    }

    static void promise05ReturnsHowManyTheAllowanceWithdraws() {
        Doc.says("Promise 5", "Returns how many permits are withdrawn by this;");
        Run run = Sites.valid(24).then("allow(0, 5, 1)", "transfer(1, 0, 6, 1)");
        run.wouldAnswer("set(1, 1)", 0).wouldAnswer("set(1, 0)", 22)
                .wouldAnswer("set(1, 200)", 0);
        run.then("set(1, 0)").due("permit(5, 5)", 1).due("permit(6, 5)", 1)
                .due("permit(4, 5)", 3).due("permit(23, 5)", 3).due("street(1, 6, 3)", -1);
    }

    static void promise05InvalidArgument() {
        Doc.says("Promise 5", "INVALID_ARGUMENT if an argument is out of range.");
        Sites.valid(2).refused("set(-1, 50)", INVALID).refused("set(3, 50)", INVALID)
                .refused("set(3, 500)", INVALID).refused("set(10, 100)", INVALID);
    }

    // ---- 6: wind

    static void promise06SetsTheWindOfANight() {
        Doc.says("Promise 6", "Sets the wind of a night.");
        Run.of("wind(0, 7)", "wind(29, 8)").due("street(0, 0, 6)", 7).due("street(3, 0, 6)", 7)
                .due("street(0, 1, 6)", 0).due("street(0, 28, 6)", 0).due("street(0, 29, 6)", 8)
                .restored("wind(29, 9)").restored("wind(29, 8)");
    }

    static void promise06Night() {
        Doc.says("Promise 6", "`night`: 0 to 29");
        Sites.valid(1).range("wind(#, 99)", 0, 29);
    }

    static void promise06Wind() {
        Doc.says("Promise 6", "`wind`: 0 to 99");
        Sites.valid(1).range("wind(0, #)", 0, 99);
        Run.of("wind(4, 99)").due("street(0, 4, 6)", 99).then("wind(4, 0)")
                .due("street(0, 4, 6)", 0);
    }

    static void promise06ReturnsHowManyAreWithdrawn() {
        Doc.says("Promise 6", "Returns how many permits are withdrawn by this;");
        Run run = Run.of("crane(0, 0, 1, 99, 0, 1)", "crane(15, 15, 1, 10, 1, 1)");
        for (int hour = 0; hour < 10; hour++) {
            run.then("apply(0, 7, " + 11 * hour + ", 1)", "apply(1, 7, " + 11 * hour + ", 1)");
        }
        run.then("apply(0, 6, 0, 1)", "apply(0, 8, 0, 1)");
        run.wouldAnswer("wind(7, 50)", 0).wouldAnswer("wind(7, 51)", 10)
                .wouldAnswer("wind(7, 94)", 10).wouldAnswer("wind(7, 95)", 20)
                .wouldAnswer("wind(9, 99)", 0).wouldAnswer("wind(6, 99)", 1);
        run.then("wind(7, 51)").due("wind(7, 99)", 10).due("wind(7, 99)", 0).due("count(1)", 2)
                .due("count(4)", 20).due("inOrder(0)", 20).due("inOrder(1)", 21);
    }

    static void promise06InvalidArgument() {
        Doc.says("Promise 6", "INVALID_ARGUMENT if an argument is out of range.");
        Sites.valid(2).refused("wind(-1, 0)", INVALID).refused("wind(30, 0)", INVALID)
                .refused("wind(0, -1)", INVALID).refused("wind(0, 100)", INVALID)
                .refused("wind(30, 100)", INVALID);
    }

    // ---- 7: allow

    static void promise07SetsTheAllowance() {
        Doc.says("Promise 7", "Sets the allowance of a street for a night.");
        Run.of("allow(0, 0, 1)", "allow(3, 29, 2)").due("street(0, 0, 0)", 1)
                .due("street(0, 1, 0)", 40).due("street(1, 0, 0)", 40).due("street(3, 29, 0)", 2)
                .due("street(3, 28, 0)", 40).due("street(2, 29, 0)", 40).due("count(11)", 40)
                .restored("allow(0, 0, 2)").restored("allow(1, 1, 40)");
    }

    static void promise07Street() {
        Doc.says("Promise 7", "`street`: 0 to 3");
        Sites.valid(1).range("allow(#, 0, 0)", 0, 3);
    }

    static void promise07Night() {
        Doc.says("Promise 7", "`night`: 0 to 29");
        Sites.valid(1).range("allow(0, #, 0)", 0, 29);
        Sites.valid(1).range("allow(3, #, 0)", 0, 29);
    }

    static void promise07Allowance() {
        Doc.says("Promise 7", "`allowance`: 0 to 200");
        Sites.valid(1).range("allow(0, 0, #)", 0, 200);
        Run.of("allow(2, 2, 200)").due("street(2, 2, 3)", 200).then("allow(2, 2, 0)")
                .due("street(2, 2, 3)", 0).due("street(2, 2, 0)", 0);
    }

    static void promise07ReturnsHowManyAreWithdrawn() {
        Doc.says("Promise 7", "Returns how many permits are withdrawn by this;");
        Run run = Sites.oneCrane();
        for (int hour = 0; hour < 10; hour++) {
            run.then("apply(0, 7, " + 11 * hour + ", 1)");
        }
        run.then("apply(0, 6, 0, 1)");
        run.wouldAnswer("allow(0, 7, 10)", 0).wouldAnswer("allow(0, 7, 9)", 1)
                .wouldAnswer("allow(0, 7, 1)", 9).wouldAnswer("allow(0, 7, 0)", 10)
                .wouldAnswer("allow(1, 7, 0)", 0).wouldAnswer("allow(0, 8, 0)", 0);
        run.then("allow(0, 7, 1)").due("inOrder(0)", 10).due("inOrder(1)", 0)
                .due("permit(1, 5)", 3).due("permit(9, 5)", 3);
    }

    static void promise07InvalidArgument() {
        Doc.says("Promise 7", "INVALID_ARGUMENT if an argument is out of range.");
        Sites.valid(2).refused("allow(-1, 0, 0)", INVALID).refused("allow(4, 0, 0)", INVALID)
                .refused("allow(0, -1, 0)", INVALID).refused("allow(0, 30, 0)", INVALID)
                .refused("allow(0, 0, -1)", INVALID).refused("allow(0, 0, 201)", INVALID)
                .refused("allow(-1, 30, 201)", INVALID);
    }

    // ---- 8: transfer

    static void promise08TransfersCreditsThatAreNotUsed() {
        Doc.says("Promise 8", "Transfers credits that are not used.");
        Run run = Sites.farApart().then("apply(0, 0, 3, 1)").due("transfer(0, 3, 0, 24)", 0)
                .due("street(0, 0, 3)", 16).due("street(0, 0, 4)", 16)
                .due("street(3, 0, 3)", 64).due("permit(0, 5)", 1).due("street(0, 0, 0)", 40);
        run.then("withdraw(0)").due("transfer(0, 3, 0, 16)", 0).due("street(0, 0, 3)", 0);
        Sites.farApart().restored("transfer(0, 1, 29, 40)");
    }

    static void promise08From() {
        Doc.says("Promise 8", "`from`: 0 to 3");
        Run.of().range("transfer(#, 1, 0, 1)", 0, 3).range("transfer(#, 2, 29, 40)", 0, 3);
    }

    static void promise08To() {
        Doc.says("Promise 8", "`to`: 0 to 3, another one");
        Run run = Run.of().range("transfer(1, #, 0, 1)", 0, 3).range("transfer(2, #, 29, 40)", 0, 3);
        for (int street = 0; street <= 3; street++) {
            run.refused("transfer(" + street + ", " + street + ", 0, 1)", INVALID);
        }
    }

    static void promise08Night() {
        Doc.says("Promise 8", "`night`: 0 to 29");
        Run.of().range("transfer(0, 1, #, 1)", 0, 29).range("transfer(3, 2, #, 1)", 0, 29);
    }

    static void promise08Credits() {
        Doc.says("Promise 8", "`credits`: 1 to 200");
        Run.of("set(1, 200)").range("transfer(0, 3, 7, #)", 1, 200)
                .due("transfer(0, 3, 7, 200)", 0).due("transfer(3, 0, 7, 1)", 399)
                .refused("transfer(3, 0, 7, 201)", INVALID)
                .refused("transfer(3, 0, 7, 0)", INVALID);
    }

    static void promise08ReturnsWhatIsLeft() {
        Doc.says("Promise 8", "Returns what is then left of the credits of the former, above what is"
                + " used;");
        Run run = Sites.farApart().then("apply(0, 0, 3, 1)");
        run.wouldAnswer("transfer(0, 1, 0, 1)", 23).wouldAnswer("transfer(0, 1, 0, 23)", 1)
                .wouldAnswer("transfer(0, 1, 0, 24)", 0).wouldAnswer("transfer(0, 1, 1, 24)", 16)
                .wouldAnswer("transfer(1, 0, 0, 24)", 16);
        run.then("transfer(1, 0, 0, 40)").wouldAnswer("transfer(0, 1, 0, 1)", 63);
    }

    static void promise08InvalidArgument() {
        Doc.says("Promise 8", "INVALID_ARGUMENT if an argument is out of range;");
        Run.of().refused("transfer(-1, 4, 30, 0)", INVALID)
                .refused("transfer(4, 0, 0, 1)", INVALID)
                .refused("transfer(0, 4, 0, 1)", INVALID)
                .refused("transfer(2, 2, 0, 1)", INVALID)
                .refused("transfer(4, 4, 0, 1)", INVALID);
    }

    static void promise08NotPossibleIfNotSoManyAreFree() {
        Doc.says("Promise 8", "NOT_POSSIBLE if not so many are free.");
        Run.of().refused("transfer(0, 1, 0, 41)", IMPOSSIBLE)
                .refused("transfer(0, 1, 0, 200)", IMPOSSIBLE)
                .then("transfer(0, 1, 0, 40)").refused("transfer(0, 1, 0, 1)", IMPOSSIBLE);
        Sites.farApart().then("apply(0, 0, 3, 1)").refused("transfer(0, 1, 0, 25)", IMPOSSIBLE)
                .then("transfer(0, 1, 0, 24)").refused("transfer(0, 1, 0, 1)", IMPOSSIBLE);
        Run.of("transfer(0, 1, 0, 40)", "allow(0, 0, 0)").due("street(0, 0, 3)", -40)
                .refused("transfer(0, 1, 0, 1)", IMPOSSIBLE).then("transfer(1, 0, 0, 40)")
                .refused("transfer(0, 1, 0, 1)", IMPOSSIBLE).then("transfer(1, 0, 0, 1)")
                .due("transfer(0, 1, 0, 1)", 0);
    }

    // ---- 9: street

    /** Street 2 in night 29 with a bit of all. */
    private static Run busyStreet() {
        return Run.of("crane(4, 4, 1, 40, 2, 3)", "crane(9, 9, 1, 40, 2, 2)",
                "crane(13, 13, 1, 40, 1, 9)", "wind(29, 12)", "allow(2, 29, 77)",
                "transfer(2, 0, 29, 7)", "transfer(3, 2, 29, 2)", "apply(0, 29, 12, 1)",
                "apply(1, 29, 0, 1)", "apply(0, 29, 44, 1)", "apply(2, 29, 0, 1)",
                "apply(0, 28, 0, 1)", "withdraw(2)");
    }

    static void promise09ReturnsSomethingOfAStreet() {
        Doc.says("Promise 9", "Returns something of a street in a night.");
        int[] want = {77, 2, 7, 72, 8, 2, 12};
        Run run = busyStreet().range("street(2, 29, #)", 0, 6);
        for (int what = 0; what <= 6; what++) {
            run.due("street(2, 29, " + what + ")", want[what]);
        }
    }

    static void promise09Street() {
        Doc.says("Promise 9", "`street`: 0 to 3");
        busyStreet().range("street(#, 0, 0)", 0, 3).range("street(#, 29, 6)", 0, 3);
    }

    static void promise09Night() {
        Doc.says("Promise 9", "`night`: 0 to 29");
        busyStreet().range("street(0, #, 0)", 0, 29).range("street(3, #, 6)", 0, 29);
    }

    static void promise09Allowance() {
        Doc.says("Promise 9", "0: its allowance;");
        Run.of("allow(0, 1, 0)", "allow(0, 2, 200)").due("street(0, 0, 0)", 40)
                .due("street(0, 1, 0)", 0).due("street(0, 2, 0)", 200);
    }

    static void promise09Transferred() {
        Doc.says("Promise 9", "1: transferred to it;");
        Doc.says("Promise 9", "2: transferred from it;");
        Run run = Run.of("set(1, 200)");
        for (int i = 0; i < 10; i++) {
            run.then("transfer(0, 1, 29, 200)", "transfer(1, 0, 29, 200)");
        }
        run.due("street(0, 29, 1)", 2000).due("street(0, 29, 2)", 2000)
                .due("street(1, 29, 1)", 2000).due("street(0, 29, 3)", 200)
                .due("street(2, 29, 1)", 0).due("street(2, 29, 2)", 0)
                .due("street(0, 28, 1)", 0).due("street(0, 28, 2)", 0);
    }

    static void promise09Credits() {
        Doc.says("Promise 9", "3: its credits;");
        Run.of("set(1, 200)", "transfer(0, 1, 0, 200)", "transfer(2, 1, 0, 200)",
                "transfer(3, 1, 0, 200)").due("street(1, 0, 3)", 800).due("street(0, 0, 3)", 0)
                .then("set(1, 0)").due("street(1, 0, 3)", 600).due("street(0, 0, 3)", -200);
    }

    static void promise09UsedAndValidPermits() {
        Doc.says("Promise 9", "4: what is used;");
        Doc.says("Promise 9", "5: valid permits;");
        Run run = Sites.oneCrane().due("street(0, 0, 4)", 0).due("street(0, 0, 5)", 0);
        for (int hour = 0; hour < 10; hour++) {
            run.then("apply(0, 0, " + 11 * hour + ", 1)");
        }
        run.due("street(0, 0, 4)", 10).due("street(0, 0, 5)", 10).due("street(1, 0, 5)", 0)
                .due("street(0, 1, 5)", 0).then("noise(0, 4)").due("street(0, 0, 4)", 40)
                .then("noise(0, 9)").due("street(0, 0, 4)", 36).due("street(0, 0, 5)", 4)
                .then("withdraw(0)").due("street(0, 0, 4)", 27).due("street(0, 0, 5)", 3);
    }

    static void promise09Wind() {
        Doc.says("Promise 9", "6: the wind of the night");
        Run.of("wind(29, 99)").due("street(0, 29, 6)", 99).due("street(3, 29, 6)", 99)
                .due("street(0, 28, 6)", 0).due("street(3, 0, 6)", 0);
    }

    static void promise09InvalidArgument() {
        Doc.says("Promise 9", "Returns the number;");
        Doc.says("Promise 9", "INVALID_ARGUMENT if an argument is out of range.");
        busyStreet().refused("street(-1, 0, 0)", INVALID).refused("street(4, 0, 0)", INVALID)
                .refused("street(0, -1, 0)", INVALID).refused("street(0, 30, 0)", INVALID)
                .refused("street(0, 0, -1)", INVALID).refused("street(0, 0, 7)", INVALID)
                .refused("street(3, 30, 6)", INVALID);
    }

    // ---- 10: count

    static void promise10ReturnsANumber() {
        Doc.says("Promise 10", "Returns a number.");
        Doc.says("Promise 10", "Returns the number;");
        Run.of().range("count(#)", 0, 8).range("count(#)", 10, 12);
        Sites.ofEverything().range("count(#)", 0, 8).range("count(#)", 10, 12);
    }

    static void promise10Cranes() {
        Doc.says("Promise 10", "0: cranes;");
        Run.of().due("count(0)", 0);
        Sites.eightCranes().due("count(0)", 8).then("undo()").due("count(0)", 7);
    }

    static void promise10ValidPermits() {
        Doc.says("Promise 10", "1: valid permits;");
        Sites.oneCrane().due("count(1)", 0);
        Sites.valid(24).due("count(1)", 24).then("withdraw(0)").due("count(1)", 23)
                .then("wind(1, 99)").due("count(1)", 22).then("undo()").due("count(1)", 23);
    }

    static void promise10GrantedPermits() {
        Doc.says("Promise 10", "2: permits that were granted;");
        Sites.oneCrane().due("count(2)", 0);
        Sites.withdrawn(200).due("count(2)", 200).then("undo()", "undo()").due("count(2)", 199);
    }

    static void promise10WithdrawnByACall() {
        Doc.says("Promise 10", "3: those that were withdrawn by a call;");
        Sites.valid(2).due("count(3)", 0).then("withdraw(1)").due("count(3)", 1)
                .then("wind(0, 99)").due("count(3)", 1).then("undo()", "undo()")
                .due("count(3)", 0);
        Sites.withdrawn(200).due("count(3)", 200).due("count(4)", 0);
    }

    static void promise10WithdrawnByThemselves() {
        Doc.says("Promise 10", "4: those that were withdrawn by themselves;");
        Sites.valid(24).due("count(4)", 0).then("set(1, 0)").due("count(4)", 24)
                .due("count(3)", 0).then("undo()").due("count(4)", 0);
    }

    static void promise10CreditsUsedByAll() {
        Doc.says("Promise 10", "5: credits used by all valid permits;");
        Sites.oneCrane().due("count(5)", 0);
        Sites.valid(24).due("count(5)", 24).then("noise(0, 9)").due("count(5)", 216)
                .then("withdraw(0)").due("count(5)", 207);
        Sites.farApart().then("apply(0, 0, 1, 1)", "apply(2, 0, 0, 1)").due("count(5)", 17);
    }

    static void promise10PairsThatShareAir() {
        Doc.says("Promise 10", "6: pairs of valid permits that share air;");
        Run run = Run.of("set(2, 0)");
        for (int crane = 0; crane < 8; crane++) {
            run.then("crane(" + crane + ", 8, 8, 40, " + crane % 4 + ", 1)");
        }
        for (int crane = 0; crane < 8; crane++) {
            run.then("apply(" + crane + ", 0, 9, 255)");
        }
        run.due("count(6)", 0).then("set(2, 1)").due("count(6)", 28).then("withdraw(3)")
                .due("count(6)", 21).then("wind(0, 79)").due("count(6)", 21)
                .then("wind(0, 80)").due("count(6)", 0);
    }

    static void promise10StatesInTheHistory() {
        Doc.says("Promise 10", "7: states in the history;");
        Run.of().due("count(7)", 0).then("wind(0, 1)").due("count(7)", 1)
                .then("wind(0, 1)", "wind(0, 1)", "wind(0, 1)").due("count(7)", 4)
                .then("wind(0, 1)").due("count(7)", 4).then("undo()").due("count(7)", 3)
                .then("undo()", "undo()", "undo()").due("count(7)", 0);
    }

    static void promise10LengthOfTheText() {
        Doc.says("Promise 10", "8: the length of the text;");
        Run.of().due("count(8)", 0).write("x").due("count(8)", 1).write("y".repeat(79))
                .due("count(8)", 80).then("clearText()").due("count(8)", 0);
    }

    static void promise10Settings() {
        Doc.says("Promise 10", "10 to 12: the settings");
        Run.of().due("count(10)", 100).due("count(11)", 40).due("count(12)", 5)
                .then("set(0, 50)", "set(1, 0)", "set(2, 0)").due("count(10)", 50)
                .due("count(11)", 0).due("count(12)", 0)
                .then("set(0, 150)", "set(1, 200)", "set(2, 50)").due("count(10)", 150)
                .due("count(11)", 200).due("count(12)", 50);
    }

    static void promise10InvalidArgument() {
        Doc.says("Promise 10", "INVALID_ARGUMENT if what is out of range.");
        Sites.valid(1).refused("count(-1)", INVALID).refused("count(9)", INVALID)
                .refused("count(13)", INVALID).refused("count(" + Integer.MIN_VALUE + ")", INVALID)
                .refused("count(" + Integer.MAX_VALUE + ")", INVALID);
    }

    // ---- 11: undo

    static void promise11RestoresTheLatestState() {
        Doc.says("Promise 11", "Restores the latest state of the history, which is removed from it.");
        Run run = Run.of("wind(0, 1)", "wind(0, 2)", "wind(0, 3)").due("undo()", 2)
                .due("street(0, 0, 6)", 2).due("count(7)", 2).due("undo()", 1)
                .due("street(0, 0, 6)", 1).then("wind(0, 9)").due("undo()", 1)
                .due("street(0, 0, 6)", 1).due("undo()", 0).due("street(0, 0, 6)", 0);
        run.refused("undo()", IMPOSSIBLE);
    }

    static void promise11RestoresWithdrawnPermits() {
        Doc.says("Promise 11", "Restores the latest state of the history");
        String[] changes = {"wind(7, 99)", "set(0, 50)", "set(1, 0)", "allow(0, 7, 0)",
            "noise(0, 9)", "withdraw(7)"};
        Run run = Sites.valid(24).then("allow(0, 3, 8)", "wind(9, 26)", "wind(1, 1)", "undo()");
        for (String change : changes) {
            run.restored(change);
        }
    }

    static void promise11RestoresWhatUndoneChangesOverwrote() {
        Doc.says("Promise 11", "Restores the latest state of the history");
        Sites.farApart().then("apply(0, 0, 0, 1)", "apply(0, 1, 0, 1)", "undo()", "undo()")
                .due("count(2)", 0).due("apply(2, 2, 22, 2)", 0).then("undo()")
                .due("count(2)", 0).then("undo()").due("count(0)", 2)
                .then("crane(9, 9, 3, 33, 3, 3)").due("craneOf(2, 0)", 9)
                .due("craneOf(2, 5)", 3).then("undo()").due("count(0)", 2);
    }

    static void promise11ReturnsTheStatesThatAreLeft() {
        Doc.says("Promise 11", "Returns the number of states that are left in the history;");
        Sites.ofEverything().due("count(7)", 4).due("undo()", 3).due("undo()", 2)
                .due("undo()", 1).due("undo()", 0).due("count(7)", 0);
        Run.of("wind(0, 1)").due("undo()", 0);
    }

    static void promise11NotPossibleIfItIsEmpty() {
        Doc.says("Promise 11", "NOT_POSSIBLE if it is empty.");
        Run.of().refused("undo()", IMPOSSIBLE);
        Run.of("wind(0, 1)", "undo()").refused("undo()", IMPOSSIBLE).due("street(0, 0, 6)", 0);
        Sites.ofEverything().then("undo()", "undo()", "undo()", "undo()")
                .refused("undo()", IMPOSSIBLE).due("count(2)", 4);
    }
}
