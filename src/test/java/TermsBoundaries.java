/** A test for each sentence of the document's "Terms", "Cranes", "Credits" and "Permits". */
final class TermsBoundaries {
    private static final int INVALID = Sites.INVALID;
    private static final int IMPOSSIBLE = Sites.IMPOSSIBLE;
    private static final int LIMIT = Sites.LIMIT;

    private TermsBoundaries() {
    }

    static void termsDivisionsAreRoundedDown() {
        Doc.says("Terms", "All numbers are whole numbers; divisions are rounded down.");
        int[][] stops = {{10, 95}, {11, 95}, {12, 94}, {13, 94}, {98, 51}, {99, 51}};
        for (int[] s : stops) {
            Run.of("crane(0, 0, 1, " + s[0] + ", 0, 1)").due("craneOf(0, 7)", s[1])
                    .then("wind(0, " + (s[1] - 1) + ")").due("refusal(0, 0, 0, 1)", 0)
                    .then("wind(0, " + s[1] + ")").due("refusal(0, 0, 0, 1)", 2);
        }
    }

    // ---- Cranes

    static void cranesGroundOf16By16() {
        Doc.says("Cranes", "The ground has 16 by 16 cells, (x, y) with x and y from 0 to 15.");
        int[] ends = {0, 15};
        for (int x : ends) {
            for (int y : ends) {
                String at = x + ", " + y;
                Run corner = Run.of("crane(" + at + ", 8, 10, 0, 1)").due("area(0, 255)", 58)
                        .due("covers(0, 1, " + at + ")", 1);
                corner.refused("covers(0, 255, " + (x == 0 ? -1 : 16) + ", " + y + ")", INVALID);
                corner.refused("covers(0, 255, " + x + ", " + (y == 0 ? -1 : 16) + ")", INVALID);
            }
        }
        Run.of().refused("crane(-1, 0, 1, 10, 0, 1)", INVALID)
                .refused("crane(16, 0, 1, 10, 0, 1)", INVALID)
                .refused("crane(0, -1, 1, 10, 0, 1)", INVALID)
                .refused("crane(0, 16, 1, 10, 0, 1)", INVALID);
    }

    static void cranesGroundEndsAtItsSides() {
        Doc.says("Cranes", "all cells of the ground");
        Run.of("crane(15, 7, 1, 10, 0, 1)").due("area(0, 255)", 4)
                .due("covers(0, 255, 0, 8)", 0).due("covers(0, 255, 0, 7)", 0);
        Run.of("crane(0, 8, 1, 10, 0, 1)").due("area(0, 255)", 4)
                .due("covers(0, 255, 15, 7)", 0).due("covers(0, 255, 15, 8)", 0);
        Run.of("crane(7, 0, 1, 10, 0, 1)").due("area(0, 255)", 4).due("covers(0, 255, 7, 15)", 0);
        Run.of("crane(7, 15, 1, 10, 0, 1)").due("area(0, 255)", 4).due("covers(0, 255, 7, 0)", 0);
    }

    static void cranesAtMost8NumberedFrom0() {
        Doc.says("Cranes", "There are at most 8 cranes, numbered from 0, each in a cell of its own.");
        Run run = Run.of();
        for (int crane = 0; crane < 8; crane++) {
            run.due("crane(" + crane + ", 0, 1, 10, 0, 1)", crane);
        }
        run.refused("crane(8, 0, 1, 10, 0, 1)", LIMIT).due("count(0)", 8);
        run.refused("craneOf(8, 0)", INVALID).due("craneOf(7, 0)", 7);
    }

    static void cranesEachInACellOfItsOwn() {
        Doc.says("Cranes", "each in a cell of its own");
        Run run = Run.of("crane(3, 5, 1, 10, 0, 1)");
        run.refused("crane(3, 5, 8, 99, 3, 9)", IMPOSSIBLE);
        String[] cells = {"2, 5", "4, 5", "3, 4", "3, 6", "5, 3"};
        for (int i = 0; i < cells.length; i++) {
            run.due("crane(" + cells[i] + ", 1, 10, 0, 1)", i + 1);
        }
        run.refused("crane(5, 3, 1, 10, 0, 1)", IMPOSSIBLE);
    }

    static void cranesReachHeightStreetNoise() {
        Doc.says("Cranes", "A crane has a reach (1 to 8), a height (10 to 99), a street (0 to 3)"
                + " and a noise (1 to 9).");
        Run.of("crane(7, 7, 1, 10, 0, 1)").due("craneOf(0, 2)", 1).due("craneOf(0, 3)", 10)
                .due("craneOf(0, 4)", 0).due("craneOf(0, 5)", 1);
        Run.of("crane(7, 7, 8, 99, 3, 9)").due("craneOf(0, 2)", 8).due("craneOf(0, 3)", 99)
                .due("craneOf(0, 4)", 3).due("craneOf(0, 5)", 9);
        Run.of().refused("crane(7, 7, 0, 10, 0, 1)", INVALID)
                .refused("crane(7, 7, 9, 10, 0, 1)", INVALID)
                .refused("crane(7, 7, 1, 9, 0, 1)", INVALID)
                .refused("crane(7, 7, 1, 100, 0, 1)", INVALID)
                .refused("crane(7, 7, 1, 10, -1, 1)", INVALID)
                .refused("crane(7, 7, 1, 10, 4, 1)", INVALID)
                .refused("crane(7, 7, 1, 10, 0, 0)", INVALID)
                .refused("crane(7, 7, 1, 10, 0, 10)", INVALID);
    }

    /** Cells (dx, dy) within the reach of 8 that lie in the direction, and some that do not. */
    private static void direction(int direction, int[][] in, int[][] out) {
        Run run = Sites.oneCrane();
        for (int[] cell : in) {
            String at = (7 + cell[0]) + ", " + (7 + cell[1]) + ")";
            run.due("covers(0, " + (1 << direction) + ", " + at, 1);
            run.due("covers(0, " + (255 - (1 << direction)) + ", " + at, 0);
        }
        for (int[] cell : out) {
            String at = (7 + cell[0]) + ", " + (7 + cell[1]) + ")";
            run.due("covers(0, " + (1 << direction) + ", " + at, 0);
            run.due("covers(0, " + (255 - (1 << direction)) + ", " + at, 1);
        }
    }

    static void cranesDirection0() {
        Doc.says("Cranes", "is 0 if dx > 0, dy >= 0 and dy < dx;");
        direction(0, new int[][] {{1, 0}, {8, 0}, {2, 1}, {5, 4}, {7, 1}},
                new int[][] {{1, 1}, {5, 5}, {0, 1}, {1, -1}, {8 - 1, -1}, {-1, 0}, {4, 5}});
    }

    static void cranesDirection1() {
        Doc.says("Cranes", "1 if dx > 0 and dy >= dx;");
        direction(1, new int[][] {{1, 1}, {1, 2}, {5, 5}, {1, 7}, {4, 5}},
                new int[][] {{0, 1}, {0, 8}, {2, 1}, {5, 4}, {-1, 1}, {-1, 2}});
    }

    static void cranesDirection2() {
        Doc.says("Cranes", "2 if dx <= 0, dy > 0 and -dx < dy;");
        direction(2, new int[][] {{0, 1}, {0, 8}, {-1, 2}, {-4, 5}, {-1, 7}},
                new int[][] {{-1, 1}, {-5, 5}, {1, 1}, {1, 7}, {-1, 0}, {-5, 4}});
    }

    static void cranesDirection3() {
        Doc.says("Cranes", "3 if dx < 0, dy > 0 and -dx >= dy;");
        direction(3, new int[][] {{-1, 1}, {-2, 1}, {-5, 5}, {-7, 1}, {-5, 4}},
                new int[][] {{-1, 0}, {-7, 0}, {-1, 2}, {-4, 5}, {0, 1}, {-2, -1}});
    }

    static void cranesDirection4() {
        Doc.says("Cranes", "4 if dx < 0, dy <= 0 and -dy < -dx;");
        direction(4, new int[][] {{-1, 0}, {-7, 0}, {-2, -1}, {-5, -4}, {-7, -1}},
                new int[][] {{-1, -1}, {-5, -5}, {-1, 1}, {-7, 1}, {0, -1}, {-4, -5}});
    }

    static void cranesDirection5() {
        Doc.says("Cranes", "5 if dx < 0 and -dy >= -dx;");
        direction(5, new int[][] {{-1, -1}, {-1, -2}, {-5, -5}, {-1, -7}, {-4, -5}},
                new int[][] {{0, -1}, {0, -7}, {-2, -1}, {-5, -4}, {-1, 0}, {1, -2}});
    }

    static void cranesDirection6() {
        Doc.says("Cranes", "6 if dx >= 0, dy < 0 and dx < -dy;");
        direction(6, new int[][] {{0, -1}, {0, -7}, {1, -2}, {4, -5}, {1, -7}},
                new int[][] {{1, -1}, {5, -5}, {-1, -2}, {-1, -7}, {1, 0}, {5, -4}});
    }

    static void cranesDirection7() {
        Doc.says("Cranes", "and 7 otherwise.");
        direction(7, new int[][] {{1, -1}, {2, -1}, {5, -5}, {7, -1}, {5, -4}},
                new int[][] {{1, 0}, {8, 0}, {0, -1}, {1, -2}, {4, -5}});
    }

    static void cranesSwingIsAMaskFrom1To255() {
        Doc.says("Cranes", "A swing is a set of directions, a bit mask from 1 to 255.");
        Run run = Sites.oneCrane();
        run.range("area(0, #)", 1, 255).range("covers(0, #, 7, 7)", 1, 255)
                .range("refusal(0, 0, 0, #)", 1, 255).range("apply(0, 0, 0, #)", 1, 255)
                .range("firstFree(0, #, 1, 0)", 1, 255);
        run.due("covers(0, 3, 8, 7)", 1).due("covers(0, 3, 8, 8)", 1).due("covers(0, 3, 7, 8)", 0)
                .due("covers(0, 129, 8, 6)", 1).due("covers(0, 129, 7, 6)", 0)
                .due("covers(0, 254, 8, 7)", 0).due("covers(0, 127, 8, 6)", 0);
    }

    static void cranesSwingCoversTheCellOfTheCrane() {
        Doc.says("Cranes", "It covers the cell of the crane");
        Run run = Sites.oneCrane();
        for (int direction = 0; direction < 8; direction++) {
            run.due("covers(0, " + (1 << direction) + ", 7, 7)", 1);
        }
        Run.of("crane(0, 0, 8, 10, 0, 1)").due("area(0, 16)", 1).due("covers(0, 16, 0, 0)", 1);
    }

    static void cranesSwingCoversUpToTheReach() {
        Doc.says("Cranes", "dx * dx + dy * dy of at most reach * reach whose direction is in the set.");
        Sites.oneCrane().due("covers(0, 1, 15, 7)", 1).due("covers(0, 2, 7, 15)", 0)
                .due("covers(0, 4, 7, 15)", 1).due("covers(0, 1, 15, 8)", 0)
                .due("covers(0, 4, 6, 15)", 0).due("area(0, 255)", 195);
        Run.of("crane(8, 8, 5, 10, 0, 1)").due("covers(0, 255, 11, 12)", 1)
                .due("covers(0, 255, 4, 5)", 1).due("covers(0, 255, 13, 8)", 1)
                .due("covers(0, 255, 13, 9)", 0).due("covers(0, 255, 12, 12)", 0)
                .due("covers(0, 255, 14, 8)", 0).due("area(0, 255)", 81);
        Run.of("crane(8, 8, 1, 10, 0, 1)").due("covers(0, 255, 9, 8)", 1)
                .due("covers(0, 255, 9, 9)", 0).due("covers(0, 255, 10, 8)", 0)
                .due("area(0, 255)", 5);
    }

    static void cranesNights0To29Hours0To9() {
        Doc.says("Cranes", "There are nights 0 to 29, each with the hours 0 to 9.");
        Run run = Sites.oneCrane().range("wind(#, 0)", 0, 29).range("street(0, #, 0)", 0, 29)
                .range("refusal(0, #, 9, 1)", 0, 29).range("apply(0, #, 9, 1)", 0, 29)
                .range("firstFree(0, 1, 10, #)", 0, 29);
        run.due("apply(0, 29, 99, 1)", 0).due("apply(0, 29, 0, 1)", 1)
                .due("apply(0, 29, 18, 1)", 2).due("firstFree(0, 1, 1, 29)", Sites.NOT_FOUND)
                .due("apply(0, 0, 9, 1)", 3).due("permit(3, 2)", 9).due("permit(3, 4)", 10);
        run.refused("apply(0, 1, 100, 1)", INVALID).refused("apply(0, 1, -1, 1)", INVALID)
                .refused("apply(0, 1, 10, 1)", INVALID);
    }

    static void cranesWind0To99Initially0() {
        Doc.says("Cranes", "A night has a wind (0 to 99, initially 0).");
        for (int night = 0; night < 30; night++) {
            Run.of().due("street(3, " + night + ", 6)", 0);
        }
        Sites.oneCrane().range("wind(9, #)", 0, 99).then("wind(9, 99)").due("street(0, 9, 6)", 99)
                .due("street(3, 9, 6)", 99).due("street(0, 8, 6)", 0).due("street(0, 10, 6)", 0)
                .then("wind(9, 0)").due("street(0, 9, 6)", 0);
    }

    static void cranesMustStopIfTheWindIsAtLeast() {
        Doc.says("Cranes", "A crane must stop in a night if the wind is at least"
                + " the stop - height / 2");
        Sites.farApart().then("wind(2, 84)").due("refusal(0, 2, 0, 1)", 0).then("wind(2, 85)")
                .due("refusal(0, 2, 0, 1)", 2).then("wind(2, 86)").due("refusal(0, 2, 0, 1)", 2)
                .due("refusal(0, 1, 0, 1)", 0).due("refusal(0, 3, 0, 1)", 0);
        Run.of("crane(0, 0, 1, 31, 0, 1)", "crane(5, 5, 1, 32, 0, 1)", "wind(0, 84)")
                .due("refusal(0, 0, 0, 1)", 0).due("refusal(1, 0, 0, 1)", 2);
    }

    static void cranesStop50To150Initially100() {
        Doc.says("Cranes", "(the stop is a setting, 50 to 150, initially 100).");
        Run.of().due("count(10)", 100).range("set(0, #)", 50, 150);
        Run.of("crane(0, 0, 1, 99, 0, 1)", "set(0, 50)", "wind(0, 1)").due("craneOf(0, 7)", 1)
                .due("refusal(0, 0, 0, 1)", 2).due("refusal(0, 1, 0, 1)", 0);
        Run.of("crane(0, 0, 1, 99, 0, 1)", "set(0, 150)", "wind(0, 99)").due("craneOf(0, 7)", 101)
                .due("refusal(0, 0, 0, 1)", 0);
    }

    // ---- Credits

    static void creditsAllowanceInitiallyOfTheSetting() {
        Doc.says("Credits", "Each street has for each night an allowance (initially that of the"
                + " setting 1, 0 to 200, initially 40;");
        Run run = Run.of().due("count(11)", 40);
        for (int i = 0; i < 120; i++) {
            run.due("street(" + i / 30 + ", " + i % 30 + ", 0)", 40);
        }
        run.range("set(1, #)", 0, 200);
        run.then("set(1, 200)");
        for (int i = 0; i < 120; i++) {
            run.due("street(" + i / 30 + ", " + i % 30 + ", 0)", 200);
        }
        run.then("set(1, 0)").due("street(0, 0, 0)", 0).due("street(3, 29, 0)", 0)
                .due("street(3, 29, 3)", 0);
    }

    static void creditsAllowanceThatWasSetStays() {
        Doc.says("Credits", "it can be set for a street and a night, too, and stays when the setting"
                + " changes later).");
        Run.of("allow(2, 7, 40)", "allow(1, 7, 0)", "allow(2, 8, 200)", "set(1, 10)")
                .due("street(2, 7, 0)", 40).due("street(1, 7, 0)", 0).due("street(2, 8, 0)", 200)
                .due("street(2, 6, 0)", 10).due("street(3, 7, 0)", 10).due("street(0, 7, 0)", 10)
                .then("set(1, 40)", "set(1, 0)").due("street(2, 7, 0)", 40)
                .due("street(2, 6, 0)", 0)
                .then("allow(2, 6, 5)", "set(1, 99)").due("street(2, 6, 0)", 5);
    }

    static void creditsTransfer() {
        Doc.says("Credits", "To transfer n credits from one street to another one in a night means"
                + " that the former has n less, and the latter n more in this night.");
        Run.of("transfer(0, 3, 29, 40)").due("street(0, 29, 3)", 0).due("street(3, 29, 3)", 80)
                .due("street(1, 29, 3)", 40).due("street(2, 29, 3)", 40)
                .due("street(0, 28, 3)", 40).due("street(3, 28, 3)", 40)
                .then("transfer(3, 0, 29, 1)").due("street(0, 29, 3)", 1)
                .due("street(3, 29, 3)", 79);
    }

    static void creditsAreAllowancePlusAndMinusTransfers() {
        Doc.says("Credits", "The credits of a street in a night are its allowance plus what was"
                + " transferred to it, minus what was transferred from it;");
        Run.of("allow(0, 5, 100)", "transfer(0, 1, 5, 30)", "transfer(2, 0, 5, 7)")
                .due("street(0, 5, 0)", 100).due("street(0, 5, 1)", 7).due("street(0, 5, 2)", 30)
                .due("street(0, 5, 3)", 77).then("allow(0, 5, 0)").due("street(0, 5, 3)", -23)
                .then("allow(0, 5, 23)").due("street(0, 5, 3)", 0);
        Run.of("set(1, 200)", "transfer(0, 1, 0, 200)", "set(1, 0)").due("street(0, 0, 3)", -200)
                .due("street(1, 0, 3)", 200);
    }

    static void creditsUsedAreAtMostThatOr0() {
        Doc.says("Credits", "what its valid permits use, together, is at most that, or 0.");
        Run run = Sites.farApart().then("apply(0, 0, 4, 1)", "apply(1, 0, 59, 1)")
                .due("street(0, 0, 3)", 40).due("street(0, 0, 4)", 40);
        run.refused("transfer(0, 1, 0, 1)", IMPOSSIBLE);
        run.then("allow(0, 0, 39)").due("street(0, 0, 4)", 20).then("transfer(0, 1, 0, 19)")
                .due("street(0, 0, 3)", 20).then("allow(0, 0, 0)").due("street(0, 0, 3)", -19)
                .due("street(0, 0, 4)", 0).due("street(0, 0, 5)", 0);
    }

    // ---- Permits

    static void permitsHoursFromAToBBothCount() {
        Doc.says("Permits", "A permit is for a crane, a night, hours from a to b (0 to 9, a at most"
                + " b; both count), and a swing.");
        Run run = Sites.farApart().then("apply(0, 0, 0, 7)", "apply(0, 1, 9, 8)",
                "apply(0, 2, 99, 9)", "apply(0, 3, 45, 255)");
        run.due("permit(0, 4)", 4).due("permit(1, 4)", 40).due("permit(2, 4)", 4)
                .due("permit(3, 4)", 8).due("permit(3, 0)", 0).due("permit(3, 1)", 3)
                .due("permit(3, 2)", 45).due("permit(3, 3)", 255);
        run.refused("apply(0, 4, 54, 1)", INVALID).refused("apply(0, 4, 90, 1)", INVALID)
                .refused("apply(0, 4, 10, 1)", INVALID);
        run.due("refusal(0, 3, 44, 1)", 1).due("refusal(0, 3, 55, 1)", 1)
                .due("refusal(0, 3, 33, 1)", 0).due("refusal(0, 3, 66, 1)", 0);
    }

    static void permitsNumberedFrom0() {
        Doc.says("Permits", "Permits are numbered from 0 in the order in which they were granted;");
        Run run = Sites.farApart();
        run.refused("permit(0, 0)", INVALID);
        run.due("apply(1, 29, 99, 1)", 0).due("apply(0, 0, 0, 1)", 1).due("apply(2, 5, 55, 1)", 2)
                .due("permit(0, 1)", 29).due("permit(1, 1)", 0).due("permit(2, 1)", 5);
        run.refused("permit(3, 0)", INVALID).refused("permit(-1, 0)", INVALID);
    }

    static void permitsNumbersAreNotUsedAgain() {
        Doc.says("Permits", "numbers are not used again");
        Sites.farApart().then("apply(0, 0, 0, 1)", "apply(0, 1, 0, 1)", "withdraw(1)")
                .due("apply(0, 1, 0, 1)", 2).then("withdraw(0)").due("apply(0, 0, 0, 1)", 3)
                .then("wind(0, 99)", "wind(0, 0)").due("apply(0, 0, 0, 1)", 4)
                .due("permit(0, 5)", 2).due("permit(3, 5)", 3).due("permit(4, 5)", 1);
    }

    static void permitsUndoGivesNumbersBack() {
        Doc.says("Permits", "(but undo() gives them back).");
        Run run = Sites.farApart().then("apply(0, 0, 0, 1)", "apply(0, 1, 11, 3)", "undo()");
        run.refused("permit(1, 0)", INVALID);
        run.due("apply(2, 9, 88, 200)", 1).due("permit(1, 0)", 2).due("permit(1, 1)", 9)
                .due("permit(1, 2)", 88).due("permit(1, 3)", 200).due("permit(1, 4)", 9)
                .then("undo()", "undo()").due("apply(1, 2, 33, 4)", 0).due("permit(0, 0)", 1);
    }

    static void permitsAtMost24AreValid() {
        Doc.says("Permits", "At most 24 are valid at one time");
        Run run = Sites.valid(23).due("apply(0, 23, 0, 1)", 23).due("count(1)", 24);
        run.refused("apply(0, 24, 0, 1)", LIMIT);
        run.then("withdraw(7)").due("apply(0, 24, 0, 1)", 24).due("count(1)", 24);
        run.refused("apply(0, 25, 0, 1)", LIMIT);
        run.then("wind(24, 99)").due("apply(0, 25, 0, 1)", 25);
        run.refused("apply(0, 26, 0, 1)", LIMIT);
    }

    static void permitsNumbersEndAt199() {
        Doc.says("Permits", "the numbers end at 199.");
        Run run = Sites.withdrawn(199).due("apply(0, 0, 0, 1)", 199).due("count(2)", 200);
        run.refused("apply(0, 1, 0, 1)", LIMIT);
        run.then("withdraw(199)");
        run.refused("apply(0, 1, 0, 1)", LIMIT).refused("permit(200, 0)", INVALID);
        run.then("undo()", "undo()").due("apply(0, 1, 0, 1)", 199);
    }

    static void permitsUseHoursTimesNoise() {
        Doc.says("Permits", "A permit uses (its hours) * (the noise of its crane) credits of the"
                + " street of its crane in its night.");
        Run.of("crane(7, 7, 1, 10, 3, 1)", "apply(0, 29, 99, 1)").due("permit(0, 4)", 1)
                .due("street(3, 29, 4)", 1).due("street(2, 29, 4)", 0).due("street(3, 28, 4)", 0);
        Run run = Run.of("crane(7, 7, 1, 10, 0, 9)", "allow(0, 0, 89)");
        run.refused("apply(0, 0, 9, 1)", IMPOSSIBLE);
        run.then("allow(0, 0, 90)").due("apply(0, 0, 9, 1)", 0).due("permit(0, 4)", 90)
                .due("street(0, 0, 4)", 90).due("street(1, 0, 4)", 0).due("street(0, 1, 4)", 0);
    }

    static void permitsShareAirForDifferentCranes() {
        Doc.says("Permits", "Two permits share air if they are for different cranes");
        Sites.neighbours().then("apply(0, 0, 0, 255)", "withdraw(0)", "apply(0, 0, 0, 255)",
                "withdraw(1)", "apply(1, 0, 0, 255)")
                .due("shares(0, 1)", 0).due("shares(0, 0)", 0).due("shares(1, 2)", 1)
                .due("shares(2, 1)", 1).due("inTheWay(1, 0, 0, 255)", Sites.NOT_FOUND);
    }

    static void permitsShareAirInTheSameNight() {
        Doc.says("Permits", "in the same night");
        Sites.neighbours().then("apply(0, 29, 0, 255)").due("refusal(1, 29, 0, 255)", 3)
                .due("refusal(1, 28, 0, 255)", 0).due("refusal(1, 0, 0, 255)", 0)
                .then("apply(1, 28, 0, 255)").due("shares(0, 1)", 0);
    }

    static void permitsShareAirWithAnHourInCommon() {
        Doc.says("Permits", "with an hour in common");
        Run run = Sites.neighbours().then("apply(0, 0, 36, 255)");
        int[][] answers = {{0, 0}, {2, 0}, {22, 0}, {3, 3}, {33, 3}, {45, 3}, {9, 3}, {66, 3},
            {69, 3}, {67, 3}, {77, 0}, {79, 0}};
        for (int[] answer : answers) {
            run.wouldAnswer("refusal(1, 0, " + answer[0] + ", 255)", answer[1]);
        }
        Sites.neighbours().then("set(2, 0)", "apply(0, 0, 36, 255)", "apply(1, 0, 2, 255)",
                "apply(1, 0, 33, 255)", "apply(1, 0, 66, 255)", "apply(1, 0, 79, 255)",
                "set(2, 5)")
                .due("shares(0, 1)", 0).due("shares(0, 2)", 1).due("shares(0, 3)", 1)
                .due("shares(0, 4)", 0).due("count(6)", 2);
    }

    /** A crane of the height one at hour 0, and what one of the height other is told then. */
    private static void heights(int clearance, int one, int other, int refusal) {
        Run.of("crane(4, 4, 3, " + one + ", 0, 1)", "crane(6, 4, 3, " + other + ", 1, 1)",
                "set(2, " + clearance + ")", "apply(0, 0, 0, 255)")
                .due("refusal(1, 0, 0, 255)", refusal);
    }

    static void permitsShareAirWithHeightsOfLessThanTheClearance() {
        Doc.says("Permits", "the heights of the cranes differ by less than the clearance"
                + " (a setting, 0 to 50, initially 5)");
        Run.of().due("count(12)", 5).range("set(2, #)", 0, 50);
        int[][] differences = {{0, 0, 0}, {0, 1, 0}, {1, 0, 3}, {1, 1, 0}, {5, 4, 3}, {5, 5, 0},
            {49, 49, 0}, {50, 49, 3}, {50, 50, 0}};
        for (int[] d : differences) {
            heights(d[0], 40, 40 + d[1], d[2]);
            heights(d[0], 40 + d[1], 40, d[2]);
        }
        Run.of("crane(4, 4, 3, 40, 0, 1)", "crane(6, 4, 3, 44, 1, 1)", "crane(5, 5, 3, 45, 2, 1)",
                "apply(0, 0, 0, 255)")
                .due("refusal(1, 0, 0, 255)", 3).due("refusal(2, 0, 0, 255)", 0);
    }

    static void permitsShareAirIfSwingsCoverACellInCommon() {
        Doc.says("Permits", "their swings cover a cell in common.");
        Run.of("crane(4, 4, 3, 40, 0, 1)", "crane(10, 4, 3, 40, 1, 1)", "apply(0, 0, 0, 1)")
                .due("refusal(1, 0, 0, 16)", 3).due("refusal(1, 0, 0, 239)", 0);
        Run.of("crane(4, 4, 3, 40, 0, 1)", "crane(11, 4, 3, 40, 1, 1)", "apply(0, 0, 0, 255)")
                .due("refusal(1, 0, 0, 255)", 0);
        Run.of("crane(4, 4, 3, 40, 0, 1)", "crane(7, 4, 1, 40, 1, 1)", "apply(0, 0, 0, 1)")
                .due("refusal(1, 0, 0, 64)", 3);
        Run.of("crane(0, 0, 1, 40, 0, 1)", "crane(15, 15, 8, 40, 1, 1)", "apply(0, 0, 0, 255)")
                .due("refusal(1, 0, 0, 255)", 0);
    }

    static void permitsShareAirInAnyCellOfTheGround() {
        Doc.says("Permits", "their swings cover a cell in common.");
        for (int cell = 0; cell < 256; cell++) {
            int x = cell % 16;
            int y = cell / 16;
            int side = x < 15 ? x + 1 : x - 1;
            Run.of("crane(" + x + ", " + y + ", 1, 40, 0, 1)",
                    "crane(" + side + ", " + y + ", 1, 40, 1, 1)", "apply(0, 0, 0, 64)")
                    .due("refusal(1, 0, 0, " + (x < 15 ? 16 : 1) + ")", 3)
                    .due("refusal(1, 0, 0, " + (x < 15 ? 1 : 16) + ")", 0);
        }
    }

    static void permitsRefusedFor1ItsOwnPermit() {
        Doc.says("Permits", "1 the crane has a valid permit in this night with an hour in common;");
        Run run = Sites.neighbours().then("apply(0, 5, 36, 1)");
        int[][] answers = {{2, 0}, {22, 0}, {3, 1}, {33, 1}, {45, 1}, {9, 1}, {66, 1}, {69, 1},
            {77, 0}, {79, 0}};
        for (int[] answer : answers) {
            run.wouldAnswer("refusal(0, 5, " + answer[0] + ", 16)", answer[1]);
        }
        run.due("refusal(0, 4, 36, 1)", 0).due("refusal(0, 6, 36, 1)", 0)
                .due("refusal(2, 5, 36, 1)", 0).then("withdraw(0)")
                .due("refusal(0, 5, 36, 1)", 0);
    }

    static void permitsRefusedFor2TheWind() {
        Doc.says("Permits", "2 the crane must stop;");
        Sites.neighbours().then("wind(5, 79)").due("refusal(0, 5, 0, 1)", 0).then("wind(5, 80)")
                .due("refusal(0, 5, 0, 1)", 2).due("refusal(0, 6, 0, 1)", 0);
    }

    static void permitsRefusedFor3SharedAir() {
        Doc.says("Permits", "3 it would share air with a valid permit;");
        Sites.neighbours().then("apply(0, 5, 0, 255)").due("refusal(1, 5, 0, 255)", 3)
                .due("refusal(2, 5, 0, 255)", 0).then("withdraw(0)")
                .due("refusal(1, 5, 0, 255)", 0);
    }

    static void permitsRefusedFor4Credits() {
        Doc.says("Permits", "4 the credits of its street do not suffice.");
        Sites.farApart().then("apply(0, 0, 3, 1)").due("refusal(1, 0, 5, 1)", 0)
                .due("refusal(1, 0, 6, 1)", 4).due("refusal(1, 1, 6, 1)", 0)
                .due("refusal(2, 0, 3, 1)", 0).due("refusal(2, 0, 4, 1)", 4)
                .then("allow(0, 0, 19)").due("refusal(1, 0, 0, 1)", 4).then("allow(0, 0, 20)")
                .due("refusal(1, 0, 0, 1)", 0).due("refusal(1, 0, 1, 1)", 4);
    }

    static void permitsRefusedForTheFirstReason() {
        Doc.says("Permits", "An application is refused for the first of these reasons:");
        Run run = Sites.neighbours().then("apply(0, 0, 0, 255)", "apply(1, 0, 99, 255)",
                "allow(1, 0, 3)");
        run.due("refusal(1, 0, 9, 255)", 1).due("refusal(1, 0, 1, 255)", 3)
                .due("refusal(1, 0, 11, 255)", 4).then("set(0, 50)", "wind(0, 28)")
                .due("permit(1, 5)", 3).due("permit(0, 5)", 1)
                .due("refusal(1, 0, 1, 255)", 2).due("refusal(1, 0, 11, 255)", 2)
                .due("refusal(0, 0, 0, 255)", 1);
        Run.of("crane(4, 4, 3, 40, 0, 2)", "crane(8, 4, 3, 36, 1, 3)", "apply(0, 0, 0, 255)",
                "apply(1, 0, 99, 255)", "allow(1, 0, 3)", "wind(0, 80)")
                .due("permit(0, 5)", 3).due("refusal(1, 0, 9, 255)", 1);
    }

    static void permitsWithdrawnByACall() {
        Doc.says("Permits", "A valid permit is withdrawn by a call");
        Sites.farApart().then("apply(0, 0, 0, 1)", "apply(0, 1, 0, 1)", "withdraw(0)")
                .due("permit(0, 5)", 2).due("permit(1, 5)", 1).due("count(3)", 1)
                .due("count(4)", 0).due("count(1)", 1);
    }

    static void permitsWithdrawnWhenTheWindIsSet() {
        Doc.says("Permits", "or by itself: when the wind or the stop is set so that its crane must"
                + " stop;");
        Sites.farApart().then("apply(0, 4, 0, 1)", "apply(0, 5, 0, 1)").due("wind(4, 84)", 0)
                .due("permit(0, 5)", 1).due("wind(4, 85)", 1).due("permit(0, 5)", 3)
                .due("permit(1, 5)", 1).due("count(4)", 1).due("count(3)", 0);
    }

    static void permitsWithdrawnWhenTheStopIsSet() {
        Doc.says("Permits", "when the wind or the stop is set so that its crane must stop;");
        Sites.farApart().then("wind(4, 50)", "apply(0, 4, 0, 1)", "apply(0, 5, 0, 1)")
                .due("set(0, 66)", 0).due("permit(0, 5)", 1).due("set(0, 65)", 1)
                .due("permit(0, 5)", 3).due("permit(1, 5)", 1).due("set(0, 50)", 0);
    }

    static void permitsWithdrawnWhenCreditsAreLessThanUsed() {
        Doc.says("Permits", "when the credits of a street in a night, or the noise, come to be less"
                + " than what is used:");
        Run run = Sites.farApart().then("apply(0, 3, 1, 1)", "apply(1, 3, 23, 1)",
                "apply(0, 4, 4, 1)", "apply(2, 3, 1, 1)");
        run.wouldAnswer("allow(0, 3, 16)", 0).wouldAnswer("allow(0, 3, 15)", 1)
                .wouldAnswer("set(1, 20)", 0).wouldAnswer("set(1, 19)", 1)
                .wouldAnswer("set(1, 18)", 1).wouldAnswer("set(1, 17)", 2)
                .wouldAnswer("noise(0, 8)", 0).wouldAnswer("noise(0, 9)", 1)
                .wouldAnswer("noise(1, 9)", 0);
        run.then("noise(0, 9)").due("permit(2, 5)", 3).due("permit(0, 5)", 1);
    }

    static void permitsWithdrawnFromTheHighestDown() {
        Doc.says("Permits", "then the valid permits of that street and night are withdrawn from the"
                + " one with the highest number down, until what is used is at most the credits");
        Run run = Sites.farApart().then("apply(0, 3, 1, 1)", "apply(1, 3, 26, 1)",
                "apply(0, 3, 23, 1)", "apply(2, 3, 0, 1)", "apply(0, 4, 9, 1)");
        run.wouldAnswer("allow(0, 3, 36)", 0).wouldAnswer("allow(0, 3, 35)", 1)
                .wouldAnswer("allow(0, 3, 28)", 1).wouldAnswer("allow(0, 3, 27)", 2)
                .wouldAnswer("allow(0, 3, 8)", 2).wouldAnswer("allow(0, 3, 7)", 3);
        run.then("allow(0, 3, 27)").due("permit(0, 5)", 1).due("permit(1, 5)", 3)
                .due("permit(2, 5)", 3).due("permit(3, 5)", 1).due("permit(4, 5)", 1)
                .due("street(0, 3, 4)", 8);
    }

    static void permitsWithdrawnUntilNoneIsLeft() {
        Doc.says("Permits", "or none is left (credits may be below 0).");
        Sites.farApart().then("apply(0, 3, 0, 1)", "apply(1, 3, 0, 1)", "transfer(0, 1, 3, 32)")
                .due("street(0, 3, 3)", 8).due("allow(0, 3, 32)", 2).due("street(0, 3, 3)", 0)
                .due("allow(0, 3, 31)", 0).due("street(0, 3, 3)", -1).due("allow(0, 3, 0)", 0)
                .due("street(0, 3, 3)", -32).due("street(0, 3, 4)", 0)
                .due("refusal(0, 3, 0, 1)", 4);
    }

    static void permitsWithdrawnStayWithdrawn() {
        Doc.says("Permits", "Withdrawn permits do not become valid again.");
        Sites.farApart().then("apply(0, 0, 0, 1)", "wind(0, 85)", "wind(0, 0)", "set(0, 150)")
                .due("permit(0, 5)", 3).due("count(1)", 0).due("inOrder(0)", Sites.NOT_FOUND);
        Sites.farApart().then("apply(0, 0, 9, 1)", "allow(0, 0, 39)", "allow(0, 0, 200)",
                "set(1, 200)", "noise(0, 1)").due("permit(0, 5)", 3).due("street(0, 0, 5)", 0);
        Sites.farApart().then("apply(0, 0, 9, 1)", "noise(0, 5)", "noise(0, 4)", "noise(0, 1)")
                .due("permit(0, 5)", 3).due("craneOf(0, 6)", 0);
        Run run = Sites.farApart().then("apply(0, 0, 0, 1)", "withdraw(0)", "allow(0, 0, 200)");
        run.refused("withdraw(0)", IMPOSSIBLE);
        run.due("permit(0, 5)", 2).due("refusal(0, 0, 0, 1)", 0);
    }
}
