/** Promises 1 to 11. The answers that are due are reckoned by hand from the document. */
public final class CranesAndNightsTest {
    private static final int INVALID = CranePermits.INVALID_ARGUMENT;
    private static final int IMPOSSIBLE = CranePermits.NOT_POSSIBLE;
    private static final int LIMIT = CranePermits.LIMIT_REACHED;
    private static final int NOT_FOUND = CranePermits.NOT_FOUND;

    public static void main(String[] args) {
        promise1NewObject();
        promise2Crane();
        promise2OrderOfErrors();
        promise3Noise();
        promise3NoiseInSeveralNights();
        promise4CraneOf();
        promise5Stop();
        promise5Allowance();
        promise5Clearance();
        promise5Ranges();
        promise6Wind();
        promise7Allow();
        promise8Transfer();
        promise8CreditsBelowZero();
        promise8Ranges();
        promise9Street();
        promise10Count();
        promise11Undo();
        promise11UndoOfAllStreets();
        promise11HistoryOfFour();
        promise11WhatIsNoChange();
        promise11NumbersComeBack();
        Due.end();
    }

    /** Two cranes of street 0 far apart, noise 4 each, and a third one of street 1, noise 9. */
    private static CranePermits threeCranes() {
        CranePermits x = new CranePermits();
        x.crane(1, 1, 2, 30, 0, 4);
        x.crane(14, 14, 2, 30, 0, 4);
        x.crane(1, 14, 2, 30, 1, 9);
        return x;
    }

    private static void counts(String when, CranePermits x, String want) {
        StringBuilder got = new StringBuilder();
        for (int what = 0; what <= 12; what++) {
            got.append(what == 0 ? "" : " ").append(what == 9 ? "-" : "" + x.count(what));
        }
        Due.same("the counts " + when, got.toString(), want);
    }

    private static void streetIs(String when, CranePermits x, int street, int night, String want) {
        StringBuilder got = new StringBuilder();
        for (int what = 0; what <= 6; what++) {
            got.append(what == 0 ? "" : " ").append(x.street(street, night, what));
        }
        Due.same("street " + street + " in night " + night + " " + when, got.toString(), want);
    }

    private static void promise1NewObject() {
        CranePermits x = new CranePermits();
        counts("at first", x, "0 0 0 0 0 0 0 0 0 - 100 40 5");
        streetIs("at first", x, 0, 0, "40 0 0 40 0 0 0");
        streetIs("at first", x, 3, 29, "40 0 0 40 0 0 0");
        Due.is("craneOf(0, 0) at first", x.craneOf(0, 0), INVALID);
        Due.is("permit(0, 0) at first", x.permit(0, 0), INVALID);
        Due.is("inOrder(0) at first", x.inOrder(0), NOT_FOUND);
        Due.is("undo() at first", x.undo(), IMPOSSIBLE);
        Due.is("fault(0) at first", x.fault(0), NOT_FOUND);
        CranePermits other = new CranePermits();
        x.crane(0, 0, 1, 10, 0, 1);
        x.type('a');
        counts("of another object", other, "0 0 0 0 0 0 0 0 0 - 100 40 5");
    }

    private static void promise2Crane() {
        CranePermits x = new CranePermits();
        Due.is("the lowest of all", x.crane(0, 0, 1, 10, 0, 1), 0);
        Due.is("the highest of all", x.crane(15, 15, 8, 99, 3, 9), 1);
        int[][] wrong = {{-1, 1, 1, 10, 0, 1}, {16, 1, 1, 10, 0, 1}, {1, -1, 1, 10, 0, 1},
            {1, 16, 1, 10, 0, 1}, {1, 1, 0, 10, 0, 1}, {1, 1, 9, 10, 0, 1}, {1, 1, 1, 9, 0, 1},
            {1, 1, 1, 100, 0, 1}, {1, 1, 1, 10, -1, 1}, {1, 1, 1, 10, 4, 1}, {1, 1, 1, 10, 0, 0},
            {1, 1, 1, 10, 0, 10}, {Integer.MIN_VALUE, 1, 1, 10, 0, 1},
            {1, Integer.MAX_VALUE, 1, 10, 0, 1}};
        for (int[] w : wrong) {
            Due.is("crane" + java.util.Arrays.toString(w),
                    x.crane(w[0], w[1], w[2], w[3], w[4], w[5]), INVALID);
        }
        Due.is("crane in a taken cell", x.crane(0, 0, 2, 20, 1, 2), IMPOSSIBLE);
        counts("after wrong cranes", x, "2 0 0 0 0 0 0 2 0 - 100 40 5");
        Due.is("reach of crane 0", x.craneOf(0, 2), 1);
        Due.is("crane in the same column", x.crane(0, 15, 1, 10, 0, 1), 2);
        Due.is("crane in the same row", x.crane(15, 0, 1, 10, 0, 1), 3);
    }

    private static void promise2OrderOfErrors() {
        CranePermits x = new CranePermits();
        for (int i = 0; i < 8; i++) {
            Due.is("crane " + i, x.crane(i, 2 * i, 1, 10, 0, 1), i);
        }
        Due.is("a ninth crane", x.crane(9, 0, 1, 10, 0, 1), LIMIT);
        Due.is("a ninth crane in a taken cell", x.crane(7, 14, 1, 10, 0, 1), IMPOSSIBLE);
        Due.is("a wrong one in a taken cell", x.crane(7, 14, 1, 10, 0, 0), INVALID);
        Due.is("cranes", x.count(0), 8);
        Due.is("craneOf(8, 0)", x.craneOf(8, 0), INVALID);
        x.undo();
        Due.is("an eighth one again", x.crane(9, 0, 2, 11, 1, 2), 7);
        Due.is("its x", x.craneOf(7, 0), 9);
        Due.is("its y", x.craneOf(7, 1), 0);
        Due.is("its reach", x.craneOf(7, 2), 2);
        Due.is("its area", x.area(7, 255), 9);
    }

    private static void promise3Noise() {
        CranePermits x = threeCranes();
        x.apply(0, 0, 3, 255);
        x.apply(1, 0, 58, 255);
        Due.is("used", x.street(0, 0, 4), 32);
        Due.is("noise(0, 6), 40 of 40", x.noise(0, 6), 0);
        Due.is("noise(0, 7), 44 of 40", x.noise(0, 7), 1);
        Due.is("the lower permit", x.permit(0, 5), 1);
        Due.is("the higher permit, of another crane", x.permit(1, 5), 3);
        Due.is("used", x.street(0, 0, 4), 28);
        Due.is("what permit 0 uses", x.permit(0, 4), 28);
        Due.is("noise(1, 1)", x.noise(1, 1), 0);
        Due.is("what permit 1 would use", x.permit(1, 4), 4);
        Due.is("permit 1 stays withdrawn", x.permit(1, 5), 3);
        Due.is("noise of crane 1", x.craneOf(1, 5), 1);
        int history = x.count(7);
        Due.is("noise(-1, 1)", x.noise(-1, 1), INVALID);
        Due.is("noise(3, 1)", x.noise(3, 1), INVALID);
        Due.is("noise(0, 0)", x.noise(0, 0), INVALID);
        Due.is("noise(0, 10)", x.noise(0, 10), INVALID);
        Due.is("noise of crane 0", x.craneOf(0, 5), 7);
        Due.is("the history", x.count(7), history);
    }

    private static void promise3NoiseInSeveralNights() {
        CranePermits x = threeCranes();
        x.apply(2, 0, 3, 1);
        x.apply(0, 0, 9, 1);
        x.apply(0, 1, 9, 1);
        x.apply(2, 1, 2, 1);
        x.apply(0, 2, 7, 1);
        Due.is("used by all", x.count(5), 36 + 40 + 40 + 27 + 32);
        Due.is("noise(0, 5)", x.noise(0, 5), 2);
        counts("after the noise", x, "3 3 5 0 2 103 0 4 0 - 100 40 5");
        Due.is("40 of 40 in night 2", x.permit(4, 5), 1);
    }

    private static void promise4CraneOf() {
        CranePermits x = new CranePermits();
        x.crane(3, 12, 5, 99, 2, 7);
        x.crane(4, 11, 6, 11, 1, 8);
        int[] want = {3, 12, 5, 99, 2, 7, 0, 51};
        for (int what = 0; what <= 7; what++) {
            Due.is("craneOf(0, " + what + ")", x.craneOf(0, what), want[what]);
        }
        Due.is("the stop of a height of 11", x.craneOf(1, 7), 95);
        x.set(0, 150);
        Due.is("the stop then", x.craneOf(1, 7), 145);
        x.apply(1, 0, 0, 16);
        x.apply(1, 5, 0, 16);
        x.apply(1, 5, 11, 16);
        x.apply(0, 5, 22, 1);
        x.withdraw(1);
        Due.is("valid permits", x.craneOf(1, 6), 2);
        Due.is("valid permits", x.craneOf(0, 6), 1);
        Due.is("craneOf(-1, 0)", x.craneOf(-1, 0), INVALID);
        Due.is("craneOf(2, 0)", x.craneOf(2, 0), INVALID);
        Due.is("craneOf(0, -1)", x.craneOf(0, -1), INVALID);
        Due.is("craneOf(0, 8)", x.craneOf(0, 8), INVALID);
    }

    private static void promise5Stop() {
        CranePermits x = threeCranes();
        x.crane(14, 1, 1, 33, 3, 1);
        x.apply(0, 2, 0, 1);
        x.apply(3, 2, 0, 1);
        x.apply(3, 3, 0, 1);
        x.apply(1, 3, 0, 1);
        x.wind(2, 36);
        x.wind(3, 35);
        Due.is("set(0, 53): stops at 38 and 37", x.set(0, 53), 0);
        Due.is("set(0, 52): stops at 37 and 36", x.set(0, 52), 1);
        Due.is("permit 1", x.permit(1, 5), 3);
        Due.is("set(0, 50): stops at 35 and 34", x.set(0, 50), 3);
        Due.is("set(0, 150)", x.set(0, 150), 0);
        counts("after the stops", x, "4 0 4 0 4 0 0 4 0 - 150 40 5");
    }

    private static void promise5Allowance() {
        CranePermits x = threeCranes();
        x.allow(0, 1, 40);
        x.apply(0, 1, 9, 1);
        x.apply(0, 2, 4, 1);
        x.apply(1, 2, 57, 1);
        x.apply(2, 2, 1, 1);
        Due.is("set(1, 32), all of it used", x.set(1, 32), 0);
        Due.is("set(1, 31)", x.set(1, 31), 1);
        Due.is("the lower of street 0", x.permit(1, 5), 1);
        Due.is("the higher of street 0", x.permit(2, 5), 3);
        streetIs("with 31", x, 0, 2, "31 0 0 31 20 1 0");
        streetIs("where it was set", x, 0, 1, "40 0 0 40 40 1 0");
        Due.is("set(1, 0)", x.set(1, 0), 2);
        Due.is("the one where it was set", x.permit(0, 5), 1);
        Due.is("set(1, 200)", x.set(1, 200), 0);
        streetIs("with 200", x, 0, 2, "200 0 0 200 0 0 0");
        streetIs("where it was set", x, 0, 1, "40 0 0 40 40 1 0");
        x.allow(1, 9, 0);
        streetIs("set to 0", x, 1, 9, "0 0 0 0 0 0 0");
    }

    private static void promise5Clearance() {
        CranePermits x = new CranePermits();
        x.crane(4, 4, 3, 40, 0, 1);
        x.crane(6, 4, 3, 45, 1, 1);
        x.apply(0, 0, 0, 255);
        x.apply(1, 0, 0, 255);
        Due.is("5 apart, clearance 5", x.count(6), 0);
        Due.is("set(2, 6)", x.set(2, 6), 0);
        Due.is("both stay", x.count(1), 2);
        Due.is("they share air", x.count(6), 1);
        x.withdraw(1);
        Due.is("refused then", x.refusal(1, 0, 0, 255), 3);
        Due.is("set(2, 5)", x.set(2, 5), 0);
        Due.is("granted again", x.refusal(1, 0, 0, 255), 0);
        x.set(2, 50);
        Due.is("clearance 50", x.count(12), 50);
        x.set(2, 0);
        Due.is("clearance 0", x.count(12), 0);
    }

    private static void promise5Ranges() {
        CranePermits x = new CranePermits();
        int[][] wrong = {{-1, 60}, {3, 40}, {0, 49}, {0, 151}, {1, -1}, {1, 201}, {2, -1}, {2, 51},
            {Integer.MAX_VALUE, 0}, {Integer.MIN_VALUE, 0}};
        for (int[] w : wrong) {
            Due.is("set" + java.util.Arrays.toString(w), x.set(w[0], w[1]), INVALID);
        }
        counts("after wrong settings", x, "0 0 0 0 0 0 0 0 0 - 100 40 5");
        Due.is("set(0, 50)", x.set(0, 50), 0);
        Due.is("set(1, 200)", x.set(1, 200), 0);
        Due.is("set(2, 0)", x.set(2, 0), 0);
        counts("after settings", x, "0 0 0 0 0 0 0 3 0 - 50 200 0");
        Due.is("the same again is a change, too", x.set(2, 0), 0);
        Due.is("the history", x.count(7), 4);
    }

    private static void promise6Wind() {
        CranePermits x = threeCranes();
        x.crane(14, 1, 1, 99, 3, 1);
        x.apply(0, 4, 0, 1);
        x.apply(3, 4, 0, 1);
        x.apply(3, 5, 0, 1);
        Due.is("wind(4, 50)", x.wind(4, 50), 0);
        Due.is("wind(4, 51)", x.wind(4, 51), 1);
        Due.is("permit 1", x.permit(1, 5), 3);
        Due.is("permit 2, of another night", x.permit(2, 5), 1);
        Due.is("wind(4, 0)", x.wind(4, 0), 0);
        Due.is("permit 1 stays withdrawn", x.permit(1, 5), 3);
        Due.is("wind(4, 85)", x.wind(4, 85), 1);
        Due.is("the wind", x.street(2, 4, 6), 85);
        Due.is("the wind of the next night", x.street(2, 5, 6), 0);
        x.wind(29, 99);
        Due.is("the wind of the last night", x.street(0, 29, 6), 99);
        int[][] wrong = {{-1, 5}, {30, 5}, {4, -1}, {4, 100}};
        for (int[] w : wrong) {
            Due.is("wind" + java.util.Arrays.toString(w), x.wind(w[0], w[1]), INVALID);
        }
        Due.is("the wind still", x.street(2, 4, 6), 85);
        counts("after the winds", x, "4 1 3 0 2 1 0 4 0 - 100 40 5");
    }

    private static void promise7Allow() {
        CranePermits x = threeCranes();
        x.apply(0, 3, 1, 1);
        x.apply(1, 3, 26, 1);
        x.apply(0, 3, 23, 1);
        x.apply(2, 3, 0, 1);
        x.apply(0, 4, 0, 1);
        Due.is("used", x.street(0, 3, 4), 36);
        Due.is("allow(0, 3, 36)", x.allow(0, 3, 36), 0);
        Due.is("allow(0, 3, 27): 8 of permit 2 do not do, 20 of permit 1 do",
                x.allow(0, 3, 27), 2);
        Due.is("permit 0", x.permit(0, 5), 1);
        Due.is("permit 1", x.permit(1, 5), 3);
        Due.is("permit 2, though it would fit again", x.permit(2, 5), 3);
        Due.is("permit 3, of another street", x.permit(3, 5), 1);
        Due.is("permit 4, of another night", x.permit(4, 5), 1);
        Due.is("allow(0, 3, 0)", x.allow(0, 3, 0), 1);
        Due.is("allow(0, 3, 200)", x.allow(0, 3, 200), 0);
        streetIs("with 200", x, 0, 3, "200 0 0 200 0 0 0");
        int[][] wrong = {{-1, 3, 5}, {4, 3, 5}, {0, -1, 5}, {0, 30, 5}, {0, 3, -1}, {0, 3, 201}};
        for (int[] w : wrong) {
            Due.is("allow" + java.util.Arrays.toString(w), x.allow(w[0], w[1], w[2]), INVALID);
        }
        streetIs("after wrong ones", x, 0, 3, "200 0 0 200 0 0 0");
        counts("after the allowances", x, "3 2 5 0 3 13 0 4 0 - 100 40 5");
    }

    private static void promise8Transfer() {
        CranePermits x = threeCranes();
        x.apply(2, 3, 3, 1);
        Due.is("transfer of 5 with 4 free", x.transfer(1, 0, 3, 5), IMPOSSIBLE);
        streetIs("then", x, 1, 3, "40 0 0 40 36 1 0");
        Due.is("transfer of 3 with 4 free", x.transfer(1, 0, 3, 3), 1);
        Due.is("transfer of 1 with 1 free", x.transfer(1, 2, 3, 1), 0);
        Due.is("transfer of 1 with none free", x.transfer(1, 2, 3, 1), IMPOSSIBLE);
        streetIs("of the giver", x, 1, 3, "40 0 4 36 36 1 0");
        streetIs("of the first taker", x, 0, 3, "40 3 0 43 0 0 0");
        streetIs("of the second taker", x, 2, 3, "40 1 0 41 0 0 0");
        streetIs("in another night", x, 0, 4, "40 0 0 40 0 0 0");
        Due.is("43 and back", x.transfer(0, 1, 3, 43), 0);
        streetIs("of the former giver", x, 1, 3, "40 43 4 79 36 1 0");
        streetIs("of the former taker", x, 0, 3, "40 3 43 0 0 0 0");
        x.apply(0, 3, 0, 1);
        Due.is("nothing is left to it", x.count(2), 1);
        Due.is("used by all", x.count(5), 36);
    }

    private static void promise8CreditsBelowZero() {
        CranePermits x = threeCranes();
        Due.is("all of 40", x.transfer(0, 1, 7, 40), 0);
        Due.is("allow(0, 7, 10)", x.allow(0, 7, 10), 0);
        streetIs("below zero", x, 0, 7, "10 0 40 -30 0 0 0");
        Due.is("nothing to give", x.transfer(0, 1, 7, 1), IMPOSSIBLE);
        Due.is("refused", x.refusal(0, 7, 0, 1), 4);
        Due.is("noise", x.noise(0, 1), 0);
        x.transfer(1, 0, 7, 30);
        Due.is("refused at 0", x.refusal(0, 7, 0, 1), 4);
        x.transfer(1, 0, 7, 1);
        Due.is("granted at 1", x.refusal(0, 7, 0, 1), 0);
        x.apply(0, 7, 0, 1);
        Due.is("below zero, with a permit", x.allow(0, 7, 0), 1);
        streetIs("then", x, 0, 7, "0 31 40 -9 0 0 0");
    }

    private static void promise8Ranges() {
        CranePermits x = threeCranes();
        x.set(1, 200);
        int[][] wrong = {{-1, 1, 0, 1}, {4, 1, 0, 1}, {0, -1, 0, 1}, {0, 4, 0, 1}, {0, 0, 0, 1},
            {3, 3, 0, 500}, {0, 1, -1, 1}, {0, 1, 30, 1}, {0, 1, 0, 0}, {0, 1, 0, 201},
            {0, 1, 0, -1}};
        for (int[] w : wrong) {
            Due.is("transfer" + java.util.Arrays.toString(w),
                    x.transfer(w[0], w[1], w[2], w[3]), INVALID);
        }
        streetIs("after wrong ones", x, 0, 0, "200 0 0 200 0 0 0");
        Due.is("200 at once", x.transfer(0, 3, 29, 200), 0);
        Due.is("no more", x.transfer(0, 3, 29, 200), IMPOSSIBLE);
        Due.is("200 of 400", x.transfer(3, 2, 29, 200), 200);
        streetIs("then", x, 3, 29, "200 200 200 200 0 0 0");
    }

    private static void promise9Street() {
        CranePermits x = threeCranes();
        x.wind(29, 12);
        x.allow(0, 29, 77);
        x.transfer(0, 2, 29, 7);
        x.transfer(1, 0, 29, 2);
        x.apply(0, 29, 12, 1);
        x.apply(1, 29, 12, 1);
        x.apply(0, 29, 44, 1);
        x.withdraw(1);
        x.apply(2, 29, 0, 1);
        streetIs("with all", x, 0, 29, "77 2 7 72 12 2 12");
        streetIs("with all", x, 1, 29, "40 0 2 38 9 1 12");
        streetIs("with all", x, 2, 29, "40 7 0 47 0 0 12");
        int[][] wrong = {{-1, 0, 0}, {4, 0, 0}, {0, -1, 0}, {0, 30, 0}, {0, 0, -1}, {0, 0, 7}};
        for (int[] w : wrong) {
            Due.is("street" + java.util.Arrays.toString(w), x.street(w[0], w[1], w[2]), INVALID);
        }
    }

    private static void promise10Count() {
        CranePermits x = new CranePermits();
        x.crane(4, 4, 3, 40, 0, 2);
        x.crane(6, 4, 3, 49, 1, 3);
        x.crane(6, 7, 3, 58, 2, 1);
        x.apply(0, 0, 4, 255);
        x.apply(1, 0, 37, 255);
        x.apply(2, 0, 77, 255);
        x.apply(2, 1, 0, 255);
        x.apply(1, 9, 0, 255);
        x.set(0, 90);
        x.set(1, 50);
        x.set(2, 10);
        x.type('x');
        x.type('y');
        counts("with pairs: 0 and 1, 1 and 2", x, "3 5 5 0 0 30 2 4 2 - 90 50 10");
        x.withdraw(3);
        x.wind(9, 66);
        counts("with two withdrawn", x, "3 3 5 1 1 26 2 4 2 - 90 50 10");
        x.withdraw(1);
        counts("with three withdrawn", x, "3 2 5 2 1 11 0 4 2 - 90 50 10");
        Due.is("count(-1)", x.count(-1), INVALID);
        Due.is("count(9)", x.count(9), INVALID);
        Due.is("count(13)", x.count(13), INVALID);
        Due.is("count(MIN)", x.count(Integer.MIN_VALUE), INVALID);
    }

    private static void promise11Undo() {
        CranePermits x = threeCranes();
        x.apply(0, 0, 4, 255);
        x.noise(0, 5);
        Due.is("undo() of noise", x.undo(), 3);
        Due.is("the noise", x.craneOf(0, 5), 4);
        x.set(0, 50);
        x.undo();
        Due.is("the stop", x.count(10), 100);
        x.wind(0, 99);
        Due.is("withdrawn", x.permit(0, 5), 3);
        x.undo();
        Due.is("the wind", x.street(0, 0, 6), 0);
        Due.is("valid again", x.permit(0, 5), 1);
        Due.is("in order again", x.inOrder(0), 0);
        x.allow(0, 0, 5);
        x.undo();
        streetIs("after undo() of allow", x, 0, 0, "40 0 0 40 20 1 0");
        x.set(1, 50);
        streetIs("with an allowance that is no longer set", x, 0, 0, "50 0 0 50 20 1 0");
        x.undo();
        x.transfer(0, 1, 0, 20);
        x.undo();
        streetIs("after undo() of transfer", x, 0, 0, "40 0 0 40 20 1 0");
        streetIs("after undo() of transfer", x, 1, 0, "40 0 0 40 0 0 0");
        x.withdraw(0);
        x.undo();
        Due.is("valid again", x.permit(0, 5), 1);
        counts("after all of it", x, "3 1 1 0 0 20 0 3 0 - 100 40 5");
        Due.is("undo() of apply", x.undo(), 2);
        Due.is("no permit", x.permit(0, 0), INVALID);
        Due.is("undo() of crane", x.undo(), 1);
        Due.is("no crane 2", x.craneOf(2, 0), INVALID);
        Due.is("undo()", x.undo(), 0);
        Due.is("one crane", x.count(0), 1);
        Due.is("undo() at the end", x.undo(), IMPOSSIBLE);
        Due.is("one crane still", x.count(0), 1);
    }

    private static void promise11UndoOfAllStreets() {
        for (int street = 0; street < 4; street++) {
            CranePermits x = threeCranes();
            int other = (street + 1) % 4;
            x.allow(street, 29, 70);
            x.transfer(street, other, 29, 8);
            x.undo();
            streetIs("after undo() of transfer", x, street, 29, "70 0 0 70 0 0 0");
            streetIs("after undo() of transfer", x, other, 29, "40 0 0 40 0 0 0");
            x.undo();
            streetIs("after undo() of allow", x, street, 29, "40 0 0 40 0 0 0");
            x.wind(29, 5);
            x.undo();
            streetIs("after undo() of wind", x, street, 29, "40 0 0 40 0 0 0");
        }
    }

    private static void promise11HistoryOfFour() {
        CranePermits x = new CranePermits();
        for (int wind = 1; wind <= 9; wind++) {
            x.wind(0, wind);
            Due.is("history after " + wind, x.count(7), Math.min(4, wind));
        }
        for (int left = 3; left >= 0; left--) {
            Due.is("undo()", x.undo(), left);
            Due.is("the wind with " + left + " left", x.street(0, 0, 6), 5 + left);
        }
        Due.is("undo() of an empty history", x.undo(), IMPOSSIBLE);
        Due.is("the wind", x.street(0, 0, 6), 5);
        x.wind(0, 20);
        x.wind(0, 21);
        x.undo();
        x.wind(0, 22);
        x.undo();
        x.undo();
        Due.is("the wind after mixed calls", x.street(0, 0, 6), 5);
    }

    private static void promise11WhatIsNoChange() {
        CranePermits x = threeCranes();
        x.type('0');
        x.type(';');
        Due.is("typing", x.count(7), 3);
        x.clearText();
        x.type('a');
        Due.is("clearing", x.count(7), 3);
        x.crane(1, 1, 1, 10, 0, 1);
        x.apply(0, 0, 0, 0);
        x.withdraw(0);
        x.enter();
        x.transfer(0, 1, 0, 41);
        x.refusal(0, 0, 0, 1);
        x.firstFree(0, 1, 1, 0);
        x.fault(0);
        Due.is("errors and questions", x.count(7), 3);
        x.undo();
        Due.is("the text stays", x.count(8), 1);
        x.clearText();
        x.undo();
        Due.is("the text stays empty", x.count(8), 0);
        Due.is("an empty text is entered", x.enter(), 0);
        Due.is("that is a change", x.count(7), 2);
    }

    private static void promise11NumbersComeBack() {
        CranePermits x = threeCranes();
        Due.is("first", x.apply(0, 0, 0, 1), 0);
        Due.is("second", x.apply(0, 1, 11, 3), 1);
        x.undo();
        Due.is("second again", x.apply(1, 2, 22, 7), 1);
        Due.is("its crane", x.permit(1, 0), 1);
        Due.is("its night", x.permit(1, 1), 2);
        Due.is("its hours", x.permit(1, 2), 22);
        Due.is("its swing", x.permit(1, 3), 7);
        x.withdraw(1);
        Due.is("a number is not used twice", x.apply(1, 2, 22, 7), 2);
    }
}
