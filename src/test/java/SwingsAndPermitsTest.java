/** Promises 12 to 21. The answers that are due are reckoned by hand from the document. */
public final class SwingsAndPermitsTest {
    private static final int INVALID = CranePermits.INVALID_ARGUMENT;
    private static final int IMPOSSIBLE = CranePermits.NOT_POSSIBLE;
    private static final int LIMIT = CranePermits.LIMIT_REACHED;
    private static final int NOT_FOUND = CranePermits.NOT_FOUND;

    /** The directions around a crane with a reach of 3; * is its own cell. */
    private static final String[] AROUND = {
        "   6   ",
        " 55667 ",
        " 45677 ",
        "444*000",
        " 33210 ",
        " 32211 ",
        "   2   ",
    };

    public static void main(String[] args) {
        for (int direction = 0; direction < 8; direction++) {
            promise12Covers(direction);
        }
        promise12Corner();
        promise12EachCell();
        promise12Ranges();
        promise13Area();
        promise14Reasons();
        promise14OrderOfReasons();
        promise14Ranges();
        promise15Apply();
        promise15TwentyFourAreValid();
        promise15NumbersAreUsedUp();
        promise16Withdraw();
        promise17Permit();
        promise18InOrder();
        promise19Shares();
        promise19SharesOneCell();
        promise19SharesWhateverIsValid();
        promise20InTheWay();
        promise21FirstFree();
        promise21Reasons();
        promise21WithoutRoom();
        Due.end();
    }

    private static void promise12Covers(int direction) {
        CranePermits x = new CranePermits();
        x.crane(0, 0, 8, 10, 0, 1);
        x.crane(6, 9, 3, 40, 0, 1);
        for (int dy = -4; dy <= 4; dy++) {
            for (int dx = -4; dx <= 4; dx++) {
                boolean near = Math.abs(dx) < 4 && Math.abs(dy) < 4;
                char sign = near ? AROUND[dy + 3].charAt(dx + 3) : ' ';
                int want = sign == '*' || sign == '0' + direction ? 1 : 0;
                Due.is("direction " + direction + " covers " + dx + ", " + dy,
                        x.covers(1, 1 << direction, 6 + dx, 9 + dy), want);
            }
        }
        for (int other = 0; other < 8; other++) {
            int swing = 1 << other | 1 << direction;
            Due.is("swing " + swing + " covers 2, -2",
                    x.covers(1, swing, 8, 7), other == 7 || direction == 7 ? 1 : 0);
        }
    }

    private static void promise12Corner() {
        CranePermits x = new CranePermits();
        x.crane(15, 15, 8, 10, 0, 1);
        Due.is("own cell", x.covers(0, 1, 15, 15), 1);
        Due.is("8 to the left", x.covers(0, 16, 7, 15), 1);
        Due.is("9 to the left", x.covers(0, 255, 6, 15), 0);
        Due.is("8 ahead", x.covers(0, 64, 15, 7), 1);
        Due.is("no cell of the next row", x.covers(0, 255, 0, 15), 0);
        Due.is("5 and 6: 61", x.covers(0, 255, 10, 9), 1);
        Due.is("4 and 7: 65", x.covers(0, 255, 11, 8), 0);
        Due.is("0, 0", x.covers(0, 255, 0, 0), 0);
    }

    /** A small crane in each cell of the ground, and no cell but its neighbours. */
    private static void promise12EachCell() {
        for (int cell = 0; cell < 256; cell++) {
            CranePermits x = new CranePermits();
            x.crane(cell % 16, cell / 16, 1, 10, 0, 1);
            int sides = (cell % 16 > 0 ? 1 : 0) + (cell % 16 < 15 ? 1 : 0)
                    + (cell > 15 ? 1 : 0) + (cell < 240 ? 1 : 0);
            Due.is("area of the crane in cell " + cell, x.area(0, 255), 1 + sides);
            int covered = 0;
            for (int other = 0; other < 256; other++) {
                covered += x.covers(0, 255, other % 16, other / 16);
            }
            Due.is("cells of the crane in cell " + cell, covered, 1 + sides);
            Due.is("its own cell", x.covers(0, 128, cell % 16, cell / 16), 1);
        }
    }

    private static void promise12Ranges() {
        CranePermits x = new CranePermits();
        x.crane(2, 2, 8, 10, 0, 1);
        int[][] wrong = {{-1, 1, 2, 2}, {1, 1, 2, 2}, {0, 0, 2, 2}, {0, 256, 2, 2}, {0, -1, 2, 2},
            {0, 1, -1, 2}, {0, 1, 16, 2}, {0, 1, 2, -1}, {0, 1, 2, 16},
            {Integer.MAX_VALUE, 1, 2, 2}};
        for (int[] w : wrong) {
            Due.is("covers" + java.util.Arrays.toString(w),
                    x.covers(w[0], w[1], w[2], w[3]), INVALID);
        }
    }

    private static void promise13Area() {
        CranePermits x = new CranePermits();
        x.crane(6, 9, 3, 40, 0, 1);
        x.crane(0, 0, 2, 40, 0, 1);
        x.crane(15, 15, 1, 40, 0, 1);
        // the cells of each direction in the picture, and the crane's own
        int[] want = {5, 4, 5, 4, 5, 4, 5, 4};
        for (int direction = 0; direction < 8; direction++) {
            Due.is("area of direction " + direction, x.area(0, 1 << direction), want[direction]);
        }
        Due.is("area of all", x.area(0, 255), 29);
        Due.is("area of 0, 3 and 6", x.area(0, 1 + 8 + 64), 12);
        Due.is("a corner", x.area(1, 255), 6);
        Due.is("a corner, off the ground", x.area(1, 16 + 32), 1);
        Due.is("the other corner", x.area(2, 255), 3);
        Due.is("area(-1, 1)", x.area(-1, 1), INVALID);
        Due.is("area(3, 1)", x.area(3, 1), INVALID);
        Due.is("area(0, 0)", x.area(0, 0), INVALID);
        Due.is("area(0, 256)", x.area(0, 256), INVALID);
    }

    /** Cranes 0 and 1 near one another, 4 apart in height; crane 2 higher up. */
    private static CranePermits neighbours() {
        CranePermits x = new CranePermits();
        x.crane(4, 4, 3, 40, 0, 2);
        x.crane(8, 4, 3, 44, 1, 3);
        x.crane(6, 6, 3, 60, 0, 4);
        return x;
    }

    private static void promise14Reasons() {
        CranePermits x = neighbours();
        Due.is("apply(0, 5, 24, 255)", x.apply(0, 5, 24, 255), 0);
        Due.is("own, last hour in common", x.refusal(0, 5, 49, 1), 1);
        Due.is("own, first hour in common", x.refusal(0, 5, 2, 1), 1);
        Due.is("own, around it", x.refusal(0, 5, 9, 1), 1);
        Due.is("own, in it", x.refusal(0, 5, 33, 1), 1);
        Due.is("own, ahead of it", x.refusal(0, 5, 1, 1), 0);
        Due.is("own, behind it", x.refusal(0, 5, 59, 1), 0);
        Due.is("own, in another night", x.refusal(0, 6, 24, 1), 0);
        Due.is("shared air", x.refusal(1, 5, 44, 255), 3);
        Due.is("shared air, around it", x.refusal(1, 5, 9, 255), 3);
        Due.is("no hour in common", x.refusal(1, 5, 55, 255), 0);
        Due.is("another night", x.refusal(1, 4, 44, 255), 0);
        Due.is("another side", x.refusal(1, 5, 44, 1), 0);
        Due.is("higher", x.refusal(2, 5, 44, 255), 0);
        Due.is("credits: 6 used, 34 left", x.refusal(2, 5, 7, 255), 0);
        Due.is("credits: 36 wanted", x.refusal(2, 5, 8, 255), 4);
        x.wind(5, 78);
        Due.is("wind 78", x.refusal(1, 5, 55, 255), 2);
        Due.is("wind 77", x.refusal(1, 6, 55, 255), 0);
        Due.is("the other crane at its stop", x.refusal(0, 5, 55, 255), 0);
        Due.is("nothing was granted", x.count(2), 1);
    }

    private static void promise14OrderOfReasons() {
        CranePermits x = neighbours();
        x.apply(0, 0, 5, 255);
        x.apply(1, 0, 99, 255);
        x.set(2, 50);
        x.allow(1, 0, 3);
        Due.is("2, 3 and 4 ahead of it", x.refusal(1, 0, 9, 255), 1);
        Due.is("3 and 4", x.refusal(1, 0, 5, 255), 3);
        Due.is("4", x.refusal(1, 0, 66, 255), 4);
        Due.is("wind", x.wind(0, 78), 1);
        Due.is("2, 3 and 4", x.refusal(1, 0, 5, 255), 2);
        Due.is("1 is gone", x.refusal(1, 0, 9, 255), 2);
        Due.is("1 of a valid one", x.refusal(0, 0, 5, 255), 1);
        x.wind(0, 77);
        Due.is("a withdrawn one is not in the way", x.refusal(1, 0, 99, 255), 0);
    }

    private static final int[][] WRONG_APPLICATIONS = {{-1, 0, 0, 1}, {3, 0, 0, 1}, {0, -1, 0, 1},
        {0, 30, 0, 1}, {0, 0, -1, 1}, {0, 0, 100, 1}, {0, 0, 10, 1}, {0, 0, 98, 1}, {0, 0, 0, 0},
        {0, 0, 0, 256}, {0, 0, -11, 1}, {0, 0, Integer.MIN_VALUE, 1}};

    private static void promise14Ranges() {
        CranePermits x = neighbours();
        for (int[] w : WRONG_APPLICATIONS) {
            Due.is("refusal" + java.util.Arrays.toString(w),
                    x.refusal(w[0], w[1], w[2], w[3]), INVALID);
        }
        x.noise(0, 1);
        Due.is("the widest", x.refusal(0, 29, 9, 255), 0);
        Due.is("the last hour", x.refusal(0, 29, 99, 1), 0);
    }

    private static void promise15Apply() {
        CranePermits x = neighbours();
        for (int[] w : WRONG_APPLICATIONS) {
            Due.is("apply" + java.util.Arrays.toString(w),
                    x.apply(w[0], w[1], w[2], w[3]), INVALID);
        }
        Due.is("the history", x.count(7), 3);
        Due.is("first", x.apply(0, 5, 24, 255), 0);
        Due.is("refused", x.apply(0, 5, 24, 255), IMPOSSIBLE);
        Due.is("refused", x.apply(1, 5, 24, 255), IMPOSSIBLE);
        Due.is("granted", x.count(2), 1);
        Due.is("second", x.apply(1, 5, 55, 255), 1);
        Due.is("valid", x.permit(1, 5), 1);
        x.undo();
        Due.is("valid ones", x.count(1), 1);
        Due.is("all of the credits", x.apply(2, 6, 9, 1), 2 - 1);
        Due.is("used", x.street(0, 6, 4), 40);
    }

    private static void promise15TwentyFourAreValid() {
        CranePermits x = neighbours();
        for (int i = 0; i < 24; i++) {
            Due.is("permit " + i, x.apply(0, i, 0, 1), i);
        }
        Due.is("a 25th", x.apply(0, 24, 0, 1), LIMIT);
        Due.is("not refused", x.refusal(0, 24, 0, 1), 0);
        Due.is("a refused one", x.apply(0, 23, 0, 1), IMPOSSIBLE);
        Due.is("a wrong one", x.apply(0, 24, 0, 0), INVALID);
        Due.is("withdraw(5)", x.withdraw(5), 2);
        Due.is("in its place", x.apply(0, 24, 0, 1), 24);
        Due.is("one more", x.apply(0, 25, 0, 1), LIMIT);
        Due.is("valid", x.count(1), 24);
        Due.is("granted", x.count(2), 25);
        for (int i = 0; i < 24; i++) {
            Due.is("inOrder(" + i + ")", x.inOrder(i), i < 5 ? i : i + 1);
        }
        Due.is("inOrder(24)", x.inOrder(24), NOT_FOUND);
    }

    private static void promise15NumbersAreUsedUp() {
        CranePermits x = neighbours();
        for (int i = 0; i < 200; i++) {
            Due.is("permit " + i, x.apply(0, 0, 0, 1), i);
            x.withdraw(i);
        }
        Due.is("a 201st", x.apply(0, 0, 0, 1), LIMIT);
        x.wind(0, 80);
        Due.is("a 201st that is refused", x.apply(0, 0, 0, 1), IMPOSSIBLE);
        x.undo();
        Due.is("granted", x.count(2), 200);
        Due.is("withdrawn", x.count(3), 200);
        Due.is("permit(199, 5)", x.permit(199, 5), 2);
        Due.is("permit(200, 5)", x.permit(200, 5), INVALID);
        x.undo();
        x.undo();
        Due.is("the last number again", x.apply(1, 1, 1, 1), 199);
        Due.is("its crane", x.permit(199, 0), 1);
        Due.is("and no other", x.apply(1, 2, 1, 1), LIMIT);
    }

    private static void promise16Withdraw() {
        CranePermits x = neighbours();
        x.apply(1, 5, 24, 255);
        x.apply(0, 6, 5, 255);
        Due.is("withdraw(0)", x.withdraw(0), 9);
        Due.is("permit 0", x.permit(0, 5), 2);
        Due.is("used", x.street(1, 5, 4), 0);
        Due.is("withdraw(0) again", x.withdraw(0), IMPOSSIBLE);
        x.noise(0, 1);
        Due.is("withdraw(-1)", x.withdraw(-1), INVALID);
        Due.is("withdraw(2)", x.withdraw(2), INVALID);
        Due.is("withdraw(200)", x.withdraw(200), INVALID);
        Due.is("by a call", x.count(3), 1);
        Due.is("valid", x.count(1), 1);
        x.wind(6, 99);
        Due.is("withdraw(1), gone by itself", x.withdraw(1), IMPOSSIBLE);
        Due.is("by a call", x.count(3), 1);
        Due.is("by themselves", x.count(4), 1);
        x.undo();
        Due.is("withdraw(1) with the new noise", x.withdraw(1), 6);
        Due.is("the air is free", x.refusal(0, 5, 24, 255), 0);
    }

    private static void promise17Permit() {
        CranePermits x = neighbours();
        x.apply(1, 29, 39, 200);
        x.apply(2, 7, 0, 17);
        x.apply(0, 8, 22, 1);
        x.withdraw(1);
        x.wind(8, 80);
        int[][] want = {{1, 29, 39, 200, 21, 1}, {2, 7, 0, 17, 4, 2}, {0, 8, 22, 1, 2, 3}};
        for (int permit = 0; permit < 3; permit++) {
            for (int what = 0; what < 6; what++) {
                Due.is("permit(" + permit + ", " + what + ")",
                        x.permit(permit, what), want[permit][what]);
            }
        }
        x.noise(2, 9);
        Due.is("what permit 1 would use now", x.permit(1, 4), 9);
        Due.is("permit(-1, 0)", x.permit(-1, 0), INVALID);
        Due.is("permit(3, 0)", x.permit(3, 0), INVALID);
        Due.is("permit(0, -1)", x.permit(0, -1), INVALID);
        Due.is("permit(0, 6)", x.permit(0, 6), INVALID);
        Due.is("permit(3, 6)", x.permit(3, 6), INVALID);
    }

    private static void promise18InOrder() {
        CranePermits x = neighbours();
        x.apply(0, 9, 55, 1);
        x.apply(2, 3, 77, 1);
        x.apply(2, 9, 57, 1);
        x.apply(0, 9, 44, 1);
        x.apply(0, 3, 79, 1);
        x.apply(2, 9, 0, 1);
        x.apply(1, 10, 0, 1);
        int[] want = {1, 4, 5, 3, 0, 2, 6};
        for (int i = 0; i < want.length; i++) {
            Due.is("inOrder(" + i + ")", x.inOrder(i), want[i]);
        }
        Due.is("inOrder(7)", x.inOrder(7), NOT_FOUND);
        Due.is("inOrder(-1)", x.inOrder(-1), INVALID);
        Due.is("inOrder(MAX)", x.inOrder(Integer.MAX_VALUE), NOT_FOUND);
        Due.is("inOrder(MIN)", x.inOrder(Integer.MIN_VALUE), INVALID);
        x.withdraw(4);
        x.withdraw(5);
        Due.is("inOrder(1) then", x.inOrder(1), 3);
        Due.is("inOrder(4) then", x.inOrder(4), 6);
        Due.is("inOrder(5) then", x.inOrder(5), NOT_FOUND);
    }

    private static void promise19Shares() {
        CranePermits x = new CranePermits();
        x.crane(4, 4, 3, 40, 0, 1);
        x.crane(10, 4, 3, 40, 1, 1);
        x.crane(4, 10, 4, 45, 2, 1);
        x.set(2, 0);
        x.apply(0, 0, 4, 255);
        x.apply(1, 0, 44, 255);
        x.apply(1, 0, 55, 255);
        x.apply(1, 1, 44, 255);
        x.apply(1, 0, 3, 1);
        x.apply(2, 0, 4, 255);
        Due.is("clearance 0", x.shares(0, 1), 0);
        x.set(2, 5);
        Due.is("one cell in common, (7, 4)", x.shares(0, 1), 1);
        Due.is("the other way round", x.shares(1, 0), 1);
        Due.is("the same one", x.shares(0, 0), 0);
        Due.is("the same crane", x.shares(1, 2), 0);
        Due.is("no hour in common", x.shares(0, 2), 0);
        Due.is("another night", x.shares(0, 3), 0);
        Due.is("no cell in common", x.shares(0, 4), 0);
        Due.is("5 apart", x.shares(0, 5), 0);
        Due.is("5 apart, the other way round", x.shares(5, 0), 0);
        x.set(2, 6);
        Due.is("5 apart, clearance 6", x.shares(0, 5), 1);
        Due.is("5 apart, the other way round", x.shares(5, 0), 1);
        Due.is("shares(-1, 0)", x.shares(-1, 0), INVALID);
        Due.is("shares(0, -1)", x.shares(0, -1), INVALID);
        Due.is("shares(6, 0)", x.shares(6, 0), INVALID);
        Due.is("shares(0, 6)", x.shares(0, 6), INVALID);
    }

    /** Cranes two cells apart with a reach of 1: the cell in between is the only common one. */
    private static void promise19SharesOneCell() {
        for (int cell = 0; cell < 256; cell++) {
            if (cell % 16 < 14) {
                CranePermits x = new CranePermits();
                x.crane(cell % 16, cell / 16, 1, 40, 0, 1);
                x.crane(cell % 16 + 2, cell / 16, 1, 40, 1, 1);
                x.apply(0, 0, 0, 1);
                Due.is("behind cell " + cell, x.refusal(1, 0, 0, 16), 3);
                Due.is("beside cell " + cell, x.refusal(1, 0, 0, 255 - 16), 0);
            }
        }
    }

    private static void promise19SharesWhateverIsValid() {
        CranePermits x = neighbours();
        x.apply(0, 0, 4, 255);
        x.withdraw(0);
        x.apply(1, 0, 4, 255);
        Due.is("one is withdrawn", x.shares(0, 1), 1);
        x.wind(0, 80);
        Due.is("both are withdrawn", x.shares(0, 1), 1);
        Due.is("pairs of valid ones", x.count(6), 0);
    }

    private static void promise20InTheWay() {
        CranePermits x = neighbours();
        x.crane(8, 8, 3, 42, 2, 1);
        x.apply(3, 0, 77, 255);
        x.apply(1, 0, 3, 255);
        x.apply(1, 0, 56, 255);
        Due.is("permits 1 and 2", x.inTheWay(0, 0, 35, 255), 1);
        Due.is("permit 2", x.inTheWay(0, 0, 45, 255), 2);
        Due.is("none in between", x.inTheWay(0, 0, 44, 255), NOT_FOUND);
        Due.is("none in another night", x.inTheWay(0, 1, 35, 255), NOT_FOUND);
        Due.is("none on the other side", x.inTheWay(0, 0, 35, 16), NOT_FOUND);
        Due.is("not its own", x.inTheWay(1, 0, 35, 255), NOT_FOUND);
        x.set(2, 20);
        Due.is("permit 0, as crane 2 comes near both", x.inTheWay(2, 0, 69, 255), 0);
        x.withdraw(1);
        Due.is("a withdrawn one is not in the way", x.inTheWay(0, 0, 35, 255), 2);
        x.wind(0, 90);
        Due.is("nor those that fell", x.inTheWay(0, 0, 35, 255), NOT_FOUND);
        for (int[] w : WRONG_APPLICATIONS) {
            int crane = w[0] == 3 ? 4 : w[0];
            Due.is("inTheWay" + java.util.Arrays.toString(w),
                    x.inTheWay(crane, w[1], w[2], w[3]), INVALID);
        }
    }

    private static void promise21FirstFree() {
        CranePermits x = neighbours();
        Due.is("at once", x.firstFree(0, 255, 1, 0), 0);
        x.apply(0, 0, 2, 255);
        x.apply(0, 0, 79, 255);
        Due.is("own: 4 hours", x.firstFree(0, 1, 4, 0), 3);
        Due.is("own: 5 hours", x.firstFree(0, 1, 5, 0), 10);
        Due.is("air: 4 hours", x.firstFree(1, 255, 4, 0), 3);
        Due.is("air: 5 hours", x.firstFree(1, 255, 5, 0), 10);
        Due.is("air on the other side", x.firstFree(1, 1, 5, 0), 0);
        Due.is("from night 7", x.firstFree(0, 1, 10, 7), 70);
        Due.is("from night 29", x.firstFree(0, 1, 10, 29), 290);
        x.apply(0, 29, 0, 1);
        Due.is("9 hours of night 29", x.firstFree(0, 1, 9, 29), 291);
        Due.is("10 hours of night 29", x.firstFree(0, 1, 10, 29), NOT_FOUND);
        x.apply(0, 29, 99, 1);
        Due.is("8 hours of night 29", x.firstFree(0, 1, 8, 29), 291);
        Due.is("9 hours of night 29", x.firstFree(0, 1, 9, 29), NOT_FOUND);
        int[][] wrong = {{-1, 1, 1, 0}, {3, 1, 1, 0}, {0, 0, 1, 0}, {0, 256, 1, 0}, {0, 1, 0, 0},
            {0, 1, 11, 0}, {0, 1, 1, -1}, {0, 1, 1, 30}};
        for (int[] w : wrong) {
            Due.is("firstFree" + java.util.Arrays.toString(w),
                    x.firstFree(w[0], w[1], w[2], w[3]), INVALID);
        }
        Due.is("many hours beyond counting", x.firstFree(0, 1, Integer.MAX_VALUE, 0), INVALID);
    }

    private static void promise21Reasons() {
        CranePermits x = neighbours();
        x.noise(2, 5);
        Due.is("9 hours are too dear", x.firstFree(2, 1, 9, 0), NOT_FOUND);
        Due.is("8 hours are not", x.firstFree(2, 1, 8, 0), 0);
        x.allow(0, 12, 45);
        Due.is("9 hours where more is allowed", x.firstFree(2, 1, 9, 0), 120);
        for (int night = 0; night < 4; night++) {
            x.wind(night, 70);
        }
        Due.is("behind the windy nights", x.firstFree(2, 1, 1, 1), 40);
        Due.is("a crane with a higher stop", x.firstFree(0, 1, 1, 1), 10);
        x.set(1, 0);
        Due.is("without credits", x.firstFree(0, 1, 1, 0), 120);
        x.allow(0, 12, 0);
        Due.is("without any credits", x.firstFree(0, 1, 1, 0), NOT_FOUND);
    }

    private static void promise21WithoutRoom() {
        CranePermits x = neighbours();
        for (int i = 0; i < 24; i++) {
            x.apply(0, i, 9, 1);
        }
        Due.is("valid", x.count(1), 24);
        Due.is("with no room", x.firstFree(0, 1, 1, 0), 240);
        Due.is("apply", x.apply(0, 24, 0, 1), LIMIT);
    }
}
