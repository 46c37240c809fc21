/** Promises 22 to 25. The answers that are due are reckoned by hand from the document. */
public final class TextsTest {
    private static final int INVALID = CranePermits.INVALID_ARGUMENT;
    private static final int IMPOSSIBLE = CranePermits.NOT_POSSIBLE;
    private static final int LIMIT = CranePermits.LIMIT_REACHED;
    private static final int NOT_FOUND = CranePermits.NOT_FOUND;

    private static final String TEN_SIGNS = "0n0h0-0s1;";

    public static void main(String[] args) {
        promise22Type();
        promise22EightySigns();
        promise23ClearText();
        promise24Form();
        promise24FormOfAnySign();
        promise24Ranges();
        promise24Reasons();
        promise24Places();
        promise24RoomOfValidPermits();
        promise24RoomOfNumbers();
        promise24ChangesNothing();
        promise25Enter();
        promise25Faults();
        promise25IsOneChange();
        promise25EightApplications();
        Due.end();
    }

    /** Cranes 0 and 1 near one another and of the same height; crane 2 higher up. */
    private static CranePermits neighbours() {
        CranePermits x = new CranePermits();
        x.crane(4, 4, 3, 40, 0, 2);
        x.crane(8, 4, 3, 40, 1, 3);
        x.crane(6, 6, 3, 60, 0, 4);
        return x;
    }

    private static void write(CranePermits x, String text) {
        x.clearText();
        for (int i = 0; i < text.length(); i++) {
            x.type(text.charAt(i));
        }
    }

    /** Place and reason of the text's fault; 0 for the reason if there is none. */
    private static void faultIs(CranePermits x, String text, int place, int reason) {
        write(x, text);
        Due.is("the place in " + text, x.fault(0), reason == 0 ? NOT_FOUND : place);
        Due.is("the reason of " + text, x.fault(1), reason == 0 ? NOT_FOUND : reason);
    }

    private static void promise22Type() {
        CranePermits x = neighbours();
        Due.is("type(32)", x.type(32), 1);
        Due.is("type(126)", x.type(126), 2);
        Due.is("type(31)", x.type(31), INVALID);
        Due.is("type(127)", x.type(127), INVALID);
        Due.is("type(-1)", x.type(-1), INVALID);
        Due.is("type(65536 + 48)", x.type(65536 + 48), INVALID);
        Due.is("the length", x.count(8), 2);
        Due.is("type(48)", x.type(48), 3);
    }

    private static void promise22EightySigns() {
        CranePermits x = neighbours();
        for (int i = 1; i <= 80; i++) {
            Due.is("sign " + i, x.type('0' + i % 10), i);
        }
        Due.is("an 81st", x.type('0'), LIMIT);
        Due.is("a wrong 81st", x.type(127), INVALID);
        Due.is("the length", x.count(8), 80);
        Due.is("clearText()", x.clearText(), 80);
        Due.is("the first again", x.type('0'), 1);
    }

    private static void promise23ClearText() {
        CranePermits x = neighbours();
        Due.is("an empty one", x.clearText(), 0);
        write(x, TEN_SIGNS + "1");
        Due.is("eleven signs", x.clearText(), 11);
        Due.is("the length", x.count(8), 0);
        Due.is("fault(0)", x.fault(0), NOT_FOUND);
        Due.is("nothing left to clear", x.clearText(), 0);
        write(x, "0n0h");
        x.clearText();
        faultIs(x, "0-0s1;", 0, 11);
    }

    private static void promise24Form() {
        CranePermits x = neighbours();
        faultIs(x, "", 0, 0);
        faultIs(x, "0n0h0-0s1;", 0, 0);
        faultIs(x, "0n29h0-9s255;", 0, 0);
        faultIs(x, "0n07h3-3s007;", 0, 0);
        String[] wrong = {"0n0h0-0s1", "n0h0-0s1;", "00n0h0-0s1;", "0nh0-0s1;", "0n000h0-0s1;",
            "0n0h-0s1;", "0n0h00-0s1;", "0n0h0-s1;", "0n0h0-00s1;", "0n0h0-0s;", "0n0h0-0s0001;",
            "0N0h0-0s1;", "0n0H0-0s1;", "0n0h0-0S1;", "0n0h00s1;", "0n0h0-01;", "0n0h0_0s1;",
            "0n0h0-0s1,", ";", " 0n0h0-0s1;", "0 n0h0-0s1;", "0n0h0-0s 1;", "0n0h0-0s1 ;", "-",
            "0n-1h0-0s1;", "0n0h0-0s+1;", "0", "0n0h0-0s", "/n0h0-0s1;", ":n0h0-0s1;"};
        for (String text : wrong) {
            faultIs(neighbours(), text, 0, 11);
        }
    }

    /** Whatever sign stands in the place of one of a right text: another form, if it is none. */
    private static void promise24FormOfAnySign() {
        for (int place = 0; place < TEN_SIGNS.length(); place++) {
            boolean digit = Character.isDigit(TEN_SIGNS.charAt(place));
            for (char sign = 32; sign <= 126; sign++) {
                boolean fits = digit ? sign >= '0' && sign <= '9' : sign == TEN_SIGNS.charAt(place);
                boolean longer = place == 9 && sign >= '0' && sign <= '9';
                if (!fits && !longer) {
                    String text = TEN_SIGNS.substring(0, place) + sign
                            + TEN_SIGNS.substring(place + 1);
                    faultIs(neighbours(), text, 0, 11);
                }
            }
        }
    }

    private static void promise24Ranges() {
        String[] wrong = {"3n0h0-0s1;", "9n0h0-0s1;", "0n30h0-0s1;", "0n99h0-0s1;", "0n0h1-0s1;",
            "0n0h9-8s1;", "0n0h0-0s0;", "0n0h0-0s000;", "0n0h0-0s256;", "0n0h0-0s999;",
            "9n99h9-0s999;"};
        for (String text : wrong) {
            faultIs(neighbours(), text, 0, 12);
        }
        CranePermits none = new CranePermits();
        faultIs(none, TEN_SIGNS, 0, 12);
        CranePermits x = neighbours();
        x.undo();
        faultIs(x, "2n0h0-0s1;", 0, 12);
        Due.is("fault(-1)", x.fault(-1), INVALID);
        Due.is("fault(2)", x.fault(2), INVALID);
        x.clearText();
        Due.is("fault(2) of an empty text", x.fault(2), INVALID);
    }

    private static void promise24Reasons() {
        CranePermits x = neighbours();
        x.apply(0, 0, 4, 255);
        x.wind(1, 75);
        faultIs(x, "0n0h4-4s1;", 0, 1);
        faultIs(x, "2n1h4-4s1;", 0, 2);
        faultIs(x, "1n0h4-4s255;", 0, 3);
        faultIs(x, "2n0h1-8s1;", 0, 4);
        faultIs(x, "2n0h1-7s1;", 0, 0);
        faultIs(x, "1n0h4-4s1;", 0, 0);
        x.withdraw(0);
        Due.is("by the permits as they are now", x.fault(1), NOT_FOUND);
        faultIs(x, "1n0h4-4s255;", 0, 0);
    }

    private static void promise24Places() {
        CranePermits x = neighbours();
        faultIs(x, "0n0h0-0s1;0n0h0-0s1;", 10, 1);
        faultIs(x, "0n0h0-4s1;1n0h4-4s16;", 10, 3);
        faultIs(x, "0n0h0-4s1;1n0h5-5s16;", 0, 0);
        faultIs(x, "0n00h0-9s255;2n0h0-4s1;2n0h5-5s1;", 23, 4);
        faultIs(x, "0n0h0-0s1;x", 10, 11);
        faultIs(x, "0n0h0-0s1;;", 10, 11);
        faultIs(x, "0n0h0-0s1; ", 10, 11);
        x = neighbours();
        faultIs(x, "0n0h0-0s1;9n0h0-0s1;x", 10, 12);
        faultIs(x, "0n0h0-0s1;0n0h0-0s2;x", 10, 1);
        faultIs(x, "0n0h0-0s1;x;0n0h0-0s1;", 10, 11);
        faultIs(x, "0n0h0-0s1;0n1h0-0s1;0n2h0-0s1", 20, 11);
    }

    private static void promise24RoomOfValidPermits() {
        CranePermits x = neighbours();
        for (int i = 0; i < 22; i++) {
            x.apply(0, i, 0, 1);
        }
        faultIs(x, "0n22h0-0s1;0n23h0-0s1;", 0, 0);
        faultIs(x, "0n22h0-0s1;0n23h0-0s1;0n24h0-0s1;", 22, 5);
        faultIs(x, "0n22h0-0s1;0n23h0-0s1;0n23h0-0s1;", 22, 1);
        faultIs(x, "0n22h0-0s1;0n23h0-0s1;0n23h0-0s0;", 22, 12);
        Due.is("enter()", x.enter(), IMPOSSIBLE);
        Due.is("valid", x.count(1), 22);
        write(x, "0n22h0-0s1;0n23h0-0s1;");
        Due.is("enter()", x.enter(), 2);
        faultIs(x, "1n0h0-0s1;", 0, 5);
    }

    private static void promise24RoomOfNumbers() {
        CranePermits x = neighbours();
        for (int i = 0; i < 199; i++) {
            x.apply(0, 0, 0, 1);
            x.withdraw(i);
        }
        faultIs(x, TEN_SIGNS, 0, 0);
        faultIs(x, TEN_SIGNS + "1n1h0-0s1;", 10, 5);
        Due.is("enter()", x.enter(), IMPOSSIBLE);
        write(x, TEN_SIGNS);
        Due.is("enter()", x.enter(), 1);
        Due.is("permit(199, 5)", x.permit(199, 5), 1);
        faultIs(x, "1n1h0-0s1;", 0, 5);
        Due.is("withdraw(199)", x.withdraw(199), 2);
        faultIs(x, "1n1h0-0s1;", 0, 5);
    }

    private static void promise24ChangesNothing() {
        CranePermits x = neighbours();
        x.apply(0, 0, 4, 255);
        write(x, "2n0h0-0s1;2n1h0-0s1;0n0h0-0s1;");
        Due.is("fault(0)", x.fault(0), 20);
        Due.is("granted", x.count(2), 1);
        Due.is("valid", x.count(1), 1);
        Due.is("used", x.street(0, 0, 4), 10);
        Due.is("the history", x.count(7), 4);
        Due.is("the length", x.count(8), 30);
        Due.is("inOrder(1)", x.inOrder(1), NOT_FOUND);
        Due.is("permit(1, 0)", x.permit(1, 0), INVALID);
        Due.is("refusal", x.refusal(2, 1, 0, 1), 0);
    }

    private static void promise25Enter() {
        CranePermits x = neighbours();
        write(x, "0n0h2-5s255;1n13h6-9s7;2n0h2-2s064;");
        Due.is("enter()", x.enter(), 3);
        int[][] want = {{0, 0, 25, 255, 8, 1}, {1, 13, 69, 7, 12, 1}, {2, 0, 22, 64, 4, 1}};
        for (int permit = 0; permit < 3; permit++) {
            for (int what = 0; what < 6; what++) {
                Due.is("permit(" + permit + ", " + what + ")",
                        x.permit(permit, what), want[permit][what]);
            }
        }
        Due.is("the text stays", x.count(8), 35);
        Due.is("it has a fault now", x.fault(0), 0);
        Due.is("its reason", x.fault(1), 1);
        Due.is("enter() again", x.enter(), IMPOSSIBLE);
        Due.is("used", x.street(0, 0, 4), 12);
        Due.is("valid", x.count(1), 3);
        Due.is("withdraw(1)", x.withdraw(1), 12);
        Due.is("inOrder(1)", x.inOrder(1), 2);
    }

    private static void promise25Faults() {
        String[] wrong = {"0n0h0-0s1", "0n0h0-0s1;0n0h0-0s1;", "3n0h0-0s1;", "2n0h0-9s1;2n0h0-0s1;",
            "2n0h0-9s1;0n0h0-0s1;"};
        for (String text : wrong) {
            CranePermits x = neighbours();
            write(x, text);
            Due.is("enter() of " + text, x.enter(), IMPOSSIBLE);
            Due.is("granted", x.count(2), 0);
            Due.is("used", x.count(5), 0);
            Due.is("the history", x.count(7), 3);
            Due.is("the length", x.count(8), text.length());
        }
    }

    private static void promise25IsOneChange() {
        CranePermits x = neighbours();
        write(x, "0n0h2-5s255;2n1h2-5s255;");
        x.enter();
        Due.is("the history", x.count(7), 4);
        Due.is("undo()", x.undo(), 3);
        Due.is("granted", x.count(2), 0);
        Due.is("valid", x.count(1), 0);
        Due.is("the text stays", x.count(8), 24);
        Due.is("enter() again", x.enter(), 2);
        x.clearText();
        Due.is("enter() of nothing", x.enter(), 0);
        Due.is("the history", x.count(7), 4);
        Due.is("undo()", x.undo(), 3);
        Due.is("granted", x.count(2), 2);
        Due.is("undo()", x.undo(), 2);
        Due.is("granted", x.count(2), 0);
        Due.is("the second permit", x.permit(1, 0), INVALID);
        Due.is("cranes", x.count(0), 3);
    }

    private static void promise25EightApplications() {
        CranePermits x = neighbours();
        StringBuilder text = new StringBuilder();
        for (int night = 0; night < 8; night++) {
            text.append("0n").append(night).append("h0-0s1;");
        }
        write(x, text.toString());
        Due.is("the length", x.count(8), 80);
        Due.is("enter()", x.enter(), 8);
        Due.is("valid", x.count(1), 8);
        Due.is("the last one", x.permit(7, 1), 7);
        Due.is("the reason", x.fault(1), 1);
        x.undo();
        x.clearText();
        faultIs(x, text.substring(0, 70) + "0n8h0-1s1", 70, 11);
    }
}
