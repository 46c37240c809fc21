/** A test for each sentence of the document's "Texts" and "Changes and errors". */
final class ChangesBoundaries {
    private static final int INVALID = Sites.INVALID;
    private static final int IMPOSSIBLE = Sites.IMPOSSIBLE;
    private static final int LIMIT = Sites.LIMIT;
    private static final int NOT_FOUND = Sites.NOT_FOUND;

    /** A call of each of the changes, none of which is refused on Sites.ofEverything(). */
    private static final String[] CHANGES = {"crane(15, 15, 8, 99, 3, 9)", "set(0, 50)",
        "set(1, 0)", "set(2, 50)", "set(2, 6)", "wind(3, 99)", "wind(7, 0)", "allow(0, 3, 0)",
        "allow(2, 29, 200)", "transfer(1, 0, 3, 40)", "transfer(3, 2, 29, 1)",
        "apply(2, 29, 99, 128)", "withdraw(0)", "noise(0, 9)", "noise(0, 2)"};

    private static final String[] QUESTIONS = {"craneOf(0, 0)", "street(0, 3, 4)", "count(7)",
        "covers(0, 255, 4, 4)", "area(0, 255)", "refusal(0, 29, 0, 1)", "permit(0, 5)",
        "inOrder(0)", "shares(0, 2)", "inTheWay(1, 3, 24, 255)", "firstFree(0, 1, 1, 0)",
        "fault(0)", "fault(1)"};

    private ChangesBoundaries() {
    }

    // ---- Texts

    static void textsAtMost80Characters() {
        Doc.says("Texts", "There is a text of at most 80 characters");
        Run run = Sites.oneCrane();
        for (int length = 1; length <= 80; length++) {
            run.due("type(126)", length);
        }
        run.refused("type(126)", LIMIT).refused("type(32)", LIMIT).due("count(8)", 80);
    }

    static void textsInitiallyEmpty() {
        Doc.says("Texts", "initially empty");
        Run run = Sites.oneCrane().due("count(8)", 0).due("fault(0)", NOT_FOUND)
                .due("fault(1)", NOT_FOUND);
        run.wouldAnswer("clearText()", 0).wouldAnswer("enter()", 0).wouldAnswer("type(32)", 1);
    }

    static void textsEachFollowedBySemicolon() {
        Doc.says("Texts", "applications, each followed by \";\"");
        Sites.oneCrane().noFault("0n0h0-0s1;").noFault("0n0h0-0s1;0n1h0-0s1;")
                .fault("0n0h0-0s1", 0, 11).fault("0n0h0-0s1;0n1h0-0s1", 10, 11)
                .fault("0n0h0-0s1:", 0, 11).fault("0n0h0-0s1;;", 10, 11).fault(";", 0, 11)
                .fault("0n0h0-0s1 ;", 0, 11).fault("0n0h0-0s10n1h0-0s1;", 0, 11);
    }

    static void textsCraneOf1Digit() {
        Doc.says("Texts", "a crane (1 digit)");
        Sites.eightCranes().noFault("0n0h0-0s1;").noFault("7n0h0-0s1;").fault("n0h0-0s1;", 0, 11)
                .fault("00n0h0-0s1;", 0, 11).fault("/n0h0-0s1;", 0, 11)
                .fault(":n0h0-0s1;", 0, 11).fault("an0h0-0s1;", 0, 11)
                .fault("+0n0h0-0s1;", 0, 11).fault(" 0n0h0-0s1;", 0, 11);
    }

    static void textsNightOf1Or2Digits() {
        Doc.says("Texts", "\"n\" and a night (1 or 2 digits)");
        Sites.oneCrane().noFault("0n0h0-0s1;").noFault("0n00h0-0s1;").noFault("0n09h0-0s1;")
                .noFault("0n9h0-0s1;").noFault("0n10h0-0s1;").noFault("0n29h0-0s1;")
                .fault("0nh0-0s1;", 0, 11).fault("0n000h0-0s1;", 0, 11)
                .fault("0n029h0-0s1;", 0, 11).fault("0N0h0-0s1;", 0, 11)
                .fault("00h0-0s1;", 0, 11).fault("0m0h0-0s1;", 0, 11)
                .fault("0n-1h0-0s1;", 0, 11).fault("0n/h0-0s1;", 0, 11)
                .fault("0n1:h0-0s1;", 0, 11);
    }

    static void textsTwoHoursOf1DigitEach() {
        Doc.says("Texts", "\"h\" and two hours (1 digit each, \"-\" between them)");
        Sites.oneCrane().noFault("0n0h0-0s1;").noFault("0n0h0-9s1;").noFault("0n0h9-9s1;")
                .fault("0n0h-0s1;", 0, 11).fault("0n0h0-s1;", 0, 11).fault("0n0h00-0s1;", 0, 11)
                .fault("0n0h0-00s1;", 0, 11).fault("0n0h00s1;", 0, 11)
                .fault("0n0h0--0s1;", 0, 11).fault("0n0h0,0s1;", 0, 11)
                .fault("0n0H0-0s1;", 0, 11).fault("0n00-0s1;", 0, 11).fault("0n0h/-0s1;", 0, 11)
                .fault("0n0h0-:s1;", 0, 11).fault("0n0h10-10s1;", 0, 11);
    }

    static void textsSwingOf1To3Digits() {
        Doc.says("Texts", "\"s\" and a swing (1 to 3 digits).");
        Sites.oneCrane().noFault("0n0h0-0s1;").noFault("0n0h0-0s01;").noFault("0n0h0-0s001;")
                .noFault("0n0h0-0s99;").noFault("0n0h0-0s255;").fault("0n0h0-0s;", 0, 11)
                .fault("0n0h0-0s0001;", 0, 11).fault("0n0h0-0s1000;", 0, 11)
                .fault("0n0h0-0S1;", 0, 11).fault("0n0h0-01;", 0, 11)
                .fault("0n0h0-0s/;", 0, 11).fault("0n0h0-0s1:;", 0, 11)
                .fault("0n0h0-0s-1;", 0, 11);
    }

    static void textsFaultByThePermitsAsTheyAreNow() {
        Doc.says("Texts", "The fault of the text, by the permits as they are now");
        Run run = Sites.farApart().write("0n0h0-9s1;").due("fault(0)", NOT_FOUND)
                .then("apply(0, 0, 55, 1)").due("fault(1)", 1).then("withdraw(0)")
                .due("fault(1)", NOT_FOUND).then("wind(0, 85)").due("fault(1)", 2)
                .then("wind(0, 0)", "allow(0, 0, 39)").due("fault(1)", 4)
                .then("undo()").due("fault(1)", NOT_FOUND);
        run.then("undo()", "undo()", "undo()").due("fault(1)", 1);
    }

    static void textsPlaceIsThatOfTheFirstCharacter() {
        Doc.says("Texts", "is the position, from 0, of the first character of the first application"
                + " that is not possible;");
        String longer = "0n00h0-0s001;";
        String text = "0n1h0-0s1;0n2h0-0s1;0n3h0-0s1;0n4h0-0s1;" + longer
                + "0n10h0-0s01;0n11h0-0s001;";
        Run run = Sites.valid(0);
        run.noFault(text).fault(text + "x", 78, 11).fault("x" + text, 0, 11)
                .fault("9n1h0-0s1;9n1h0-0s1;", 0, 12).fault("0n1h0-0s1;9n1h0-0s1;x", 10, 12)
                .fault("0n1h0-0s1;x;9n1h0-0s1;", 10, 11).fault(longer + longer, 13, 1)
                .fault("0n1h0-0s1;0n1h0-0s1;0n1h0-0s1;", 10, 1)
                .fault("0n1h0-0s1;0n2h0-0s1;0n3h0-0s1x", 20, 11);
        String to79 = "0n1h0-0s1;0n2h0-0s1;0n3h0-0s1;0n4h0-0s1;0n05h0-0s001;0n06h0-0s001;"
                + "0n07h0-0s001;";
        Due.is("the length of the text", to79.length(), 79);
        run.noFault(to79).fault(to79 + "0", 79, 11).fault(to79 + ";", 79, 11);
    }

    static void textsReason11OfAnotherForm() {
        Doc.says("Texts", "its reason is 11 if it is not of this form, its \";\" included");
        Sites.oneCrane().fault("0", 0, 11).fault("0n0h0-0s1", 0, 11).fault(" ", 0, 11)
                .fault("0n0h0-0s1;0", 10, 11).fault("0n0h0-0s1; ", 10, 11)
                .fault("9n99h9-0s999", 0, 11).fault("9n99h9-0s9990;", 0, 11);
    }

    static void textsReason12OutOfRange() {
        Doc.says("Texts", "12 if a number is out of its range (the hours: also if the second one is"
                + " less)");
        Run run = Sites.oneCrane().noFault("0n29h0-9s255;").fault("0n30h0-9s255;", 0, 12)
                .fault("0n99h0-9s255;", 0, 12).fault("0n0h1-0s1;", 0, 12)
                .fault("0n0h9-8s1;", 0, 12).noFault("0n0h9-9s1;").fault("0n0h0-0s0;", 0, 12)
                .fault("0n0h0-0s000;", 0, 12).fault("0n0h0-0s256;", 0, 12)
                .fault("0n0h0-0s999;", 0, 12);
        run.then("apply(0, 0, 9, 1)").fault("0n0h0-0s256;", 0, 12).fault("0n0h0-0s255;", 0, 1);
    }

    static void textsReason12NoSuchCrane() {
        Doc.says("Texts", "or there is no such crane");
        Run.of().fault("0n0h0-0s1;", 0, 12);
        Sites.oneCrane().noFault("0n0h0-0s1;").fault("1n0h0-0s1;", 0, 12);
        Sites.eightCranes().noFault("7n0h0-0s1;").fault("8n0h0-0s1;", 0, 12)
                .fault("9n0h0-0s1;", 0, 12).then("undo()").fault("7n0h0-0s1;", 0, 12);
    }

    static void textsReasons1To4OfRefusal() {
        Doc.says("Texts", "and otherwise that of refusal, 1 to 4");
        Run run = Sites.neighbours().then("apply(0, 0, 4, 255)", "wind(1, 78)");
        run.fault("0n0h4-5s1;", 0, 1).noFault("0n0h5-5s1;").fault("1n1h0-0s1;", 0, 2)
                .noFault("0n1h0-0s1;").fault("1n0h4-4s255;", 0, 3).noFault("1n0h5-5s255;")
                .fault("2n0h0-7s1;", 0, 4).noFault("2n0h0-6s1;");
    }

    static void textsReason5NoRoomForValidOnes() {
        Doc.says("Texts", "or 5 if there is no room for it");
        Sites.valid(24).fault("0n24h0-0s1;", 0, 5).fault("0n23h0-0s1;", 0, 1)
                .fault("0n24h0-0s0;", 0, 12).fault("0n24h0-0s1", 0, 11)
                .then("wind(24, 75)").fault("0n24h0-0s1;", 0, 2).then("allow(0, 25, 0)")
                .fault("0n25h0-0s1;", 0, 4);
        Sites.valid(23).noFault("0n24h0-0s1;").fault("0n24h0-0s1;0n25h0-0s1;", 11, 5)
                .fault("0n24h0-0s1;0n24h0-0s1;", 11, 1);
        Sites.valid(24).then("withdraw(0)").noFault("0n24h0-0s1;");
    }

    static void textsReason5NoRoomForNumbers() {
        Doc.says("Texts", "or 5 if there is no room for it");
        Sites.withdrawn(199).noFault("0n0h0-0s1;").fault("0n0h0-0s1;0n1h0-0s1;", 10, 5)
                .fault("0n0h0-0s1;0n0h0-0s1;", 10, 1);
        Sites.withdrawn(200).fault("0n0h0-0s1;", 0, 5).fault("0n0h0-0s256;", 0, 12);
    }

    static void textsWithThoseAheadOfItGranted() {
        Doc.says("Texts", "with those ahead of it in the text granted.");
        Run run = Sites.neighbours();
        run.fault("0n0h0-4s1;0n0h4-4s2;", 10, 1).noFault("0n0h0-4s1;0n0h5-5s2;")
                .fault("0n0h0-4s1;1n0h4-4s16;", 10, 3).noFault("0n0h0-4s1;1n0h4-4s1;")
                .fault("2n0h0-9s7;0n0h0-0s7;", 10, 4).noFault("2n0h0-8s7;0n0h0-1s7;")
                .fault("2n0h0-8s7;0n0h0-2s7;", 10, 4);
    }

    // ---- Changes and errors

    static void changesAreTheseCalls() {
        Doc.says("Changes and errors", "The changes are the calls of crane, set, wind, allow,"
                + " transfer, apply, withdraw, noise and enter that return no error.");
        Run run = Sites.neighbours().then("apply(0, 3, 24, 255)");
        String[] changes = {"crane(0, 0, 1, 10, 0, 1)", "set(0, 100)", "wind(0, 0)",
            "allow(0, 0, 40)", "transfer(0, 1, 0, 1)", "apply(1, 4, 0, 1)", "withdraw(0)",
            "noise(0, 2)", "enter()"};
        run.then("undo()", "undo()").then("apply(0, 3, 24, 255)").due("count(7)", 3);
        for (String change : changes) {
            run.restored(change);
        }
    }

    static void changesAreNoOtherCalls() {
        Doc.says("Changes and errors", "The changes are the calls of");
        Run run = Sites.ofEverything();
        for (String question : QUESTIONS) {
            run.unchanged(question);
        }
        Sites.oneCrane().due("count(7)", 1).then("type(48)").due("count(7)", 1)
                .then("clearText()").due("count(7)", 1).then("undo()").due("count(7)", 0);
    }

    static void changesThatReturnAnErrorAreNone() {
        Doc.says("Changes and errors", "that return no error.");
        Run run = Sites.neighbours().then("undo()").write("0").due("count(7)", 2);
        run.refused("crane(4, 4, 1, 10, 0, 1)", IMPOSSIBLE).refused("set(0, 49)", INVALID)
                .refused("wind(30, 0)", INVALID).refused("allow(4, 0, 0)", INVALID)
                .refused("transfer(0, 1, 0, 41)", IMPOSSIBLE)
                .refused("apply(1, 0, 9, 256)", INVALID).refused("withdraw(0)", INVALID)
                .refused("noise(2, 1)", INVALID).refused("enter()", IMPOSSIBLE);
    }

    static void changesHistoryOfAtMost4() {
        Doc.says("Changes and errors", "A history of at most 4 states is kept:");
        Run run = Run.of().due("count(7)", 0);
        for (int wind = 1; wind <= 12; wind++) {
            run.then("wind(0, " + wind + ")").due("count(7)", Math.min(wind, 4));
        }
        Sites.ofEverything().due("count(7)", 4).then("undo()", "undo()", "undo()", "undo()")
                .refused("undo()", IMPOSSIBLE);
    }

    static void changesRecordEverythingBeforeThem() {
        Doc.says("Changes and errors", "each change records everything before it");
        Run run = Sites.ofEverything().then("undo()");
        for (String change : CHANGES) {
            run.restored(change);
        }
        run.then("clearText()").write("0n29h0-9s255;1n29h0-0s1;").restored("enter()");
    }

    static void changesRecordAllButTheText() {
        Doc.says("Changes and errors", "everything before it but the text");
        Run run = Sites.oneCrane().then("wind(0, 1)").write("0n").then("undo()")
                .due("count(8)", 2).due("street(0, 0, 6)", 0).write("0h0-0s1;")
                .due("fault(0)", NOT_FOUND).then("wind(0, 1)", "clearText()", "undo()")
                .due("count(8)", 0);
        run.write("0n7h0-0s1;").then("enter()", "undo()").due("count(8)", 10)
                .due("count(2)", 0).due("enter()", 1).due("permit(0, 1)", 7);
    }

    static void changesDropTheOldestOf5() {
        Doc.says("Changes and errors", "if there are 5 states then, the oldest one is dropped.");
        Run four = Run.of("wind(0, 1)", "wind(0, 2)", "wind(0, 3)", "wind(0, 4)");
        four.due("undo()", 3).due("undo()", 2).due("undo()", 1).due("undo()", 0)
                .due("street(0, 0, 6)", 0).refused("undo()", IMPOSSIBLE);
        Run five = Run.of("wind(0, 1)", "wind(0, 2)", "wind(0, 3)", "wind(0, 4)", "wind(0, 5)");
        five.due("undo()", 3).due("street(0, 0, 6)", 4).due("undo()", 2)
                .due("street(0, 0, 6)", 3).due("undo()", 1).due("street(0, 0, 6)", 2)
                .due("undo()", 0).due("street(0, 0, 6)", 1).refused("undo()", IMPOSSIBLE);
        Run more = Run.of();
        for (int wind = 1; wind <= 11; wind++) {
            more.then("wind(0, " + wind + ")");
        }
        more.then("undo()", "undo()", "wind(0, 50)", "wind(0, 51)", "wind(0, 52)")
                .due("undo()", 3).due("street(0, 0, 6)", 51).due("undo()", 2).due("undo()", 1)
                .due("street(0, 0, 6)", 9).due("undo()", 0).due("street(0, 0, 6)", 8);
    }

    static void errorsInvalidArgumentRatherThanNotPossible() {
        Doc.says("Changes and errors", "If several errors apply to a call, INVALID_ARGUMENT is"
                + " returned rather than NOT_POSSIBLE");
        Sites.neighbours().refused("crane(4, 4, 0, 10, 0, 1)", INVALID)
                .refused("crane(4, 4, 1, 10, 0, 10)", INVALID)
                .refused("transfer(0, 0, 0, 41)", INVALID)
                .refused("transfer(0, 1, 0, 201)", INVALID)
                .refused("transfer(0, 1, 30, 41)", INVALID);
        Sites.neighbours().then("apply(0, 0, 4, 255)", "wind(1, 99)")
                .refused("apply(0, 0, 4, 256)", INVALID).refused("apply(0, 0, 40, 1)", INVALID)
                .refused("apply(0, 1, 10, 1)", INVALID).refused("withdraw(1)", INVALID);
    }

    static void errorsInvalidArgumentRatherThanLimitReached() {
        Doc.says("Changes and errors", "INVALID_ARGUMENT is returned rather than");
        Sites.eightCranes().refused("crane(15, 15, 9, 10, 0, 1)", INVALID)
                .refused("crane(16, 15, 1, 10, 0, 1)", INVALID);
        Sites.valid(24).refused("apply(0, 24, 0, 0)", INVALID)
                .refused("apply(0, 30, 0, 1)", INVALID).refused("apply(1, 24, 0, 1)", INVALID);
        Sites.oneCrane().write("x".repeat(80)).refused("type(31)", INVALID)
                .refused("type(127)", INVALID);
    }

    static void errorsNotPossibleRatherThanLimitReached() {
        Doc.says("Changes and errors", "NOT_POSSIBLE rather than LIMIT_REACHED");
        Sites.eightCranes().refused("crane(1, 3, 1, 10, 0, 1)", IMPOSSIBLE)
                .refused("crane(13, 11, 1, 10, 0, 1)", IMPOSSIBLE)
                .refused("crane(0, 0, 1, 10, 0, 1)", LIMIT);
        Sites.valid(24).refused("apply(0, 23, 0, 1)", IMPOSSIBLE).then("wind(24, 99)")
                .refused("apply(0, 24, 0, 1)", IMPOSSIBLE).refused("apply(0, 25, 0, 1)", LIMIT);
        Sites.withdrawn(200).then("wind(0, 99)").refused("apply(0, 0, 0, 1)", IMPOSSIBLE)
                .refused("apply(0, 1, 0, 1)", LIMIT);
    }

    static void errorsAnyRatherThanNotFound() {
        Doc.says("Changes and errors", "and LIMIT_REACHED rather than NOT_FOUND.");
        Run run = Sites.oneCrane().then("wind(29, 99)");
        run.refused("inOrder(0)", NOT_FOUND).refused("inOrder(-1)", INVALID)
                .refused("inTheWay(0, 0, 0, 1)", NOT_FOUND)
                .refused("inTheWay(0, 0, 0, 256)", INVALID)
                .refused("firstFree(0, 1, 1, 29)", NOT_FOUND)
                .refused("firstFree(0, 1, 0, 29)", INVALID)
                .refused("firstFree(0, 1, 11, 29)", INVALID).refused("fault(0)", NOT_FOUND)
                .refused("fault(2)", INVALID).refused("fault(-1)", INVALID);
    }

    static void errorsChangeNothing() {
        Doc.says("Changes and errors", "A call that returns an error changes nothing.");
        Run run = Sites.ofEverything().due("count(7)", 4);
        run.refused("crane(16, 0, 1, 10, 0, 1)", INVALID)
                .refused("crane(4, 4, 1, 10, 0, 1)", IMPOSSIBLE).refused("noise(0, 0)", INVALID)
                .refused("noise(3, 9)", INVALID).refused("craneOf(0, 8)", INVALID)
                .refused("set(0, 151)", INVALID).refused("set(3, 0)", INVALID)
                .refused("wind(3, 100)", INVALID).refused("wind(-1, 99)", INVALID)
                .refused("allow(0, 3, 201)", INVALID).refused("allow(4, 3, 0)", INVALID)
                .refused("transfer(0, 1, 3, 200)", IMPOSSIBLE)
                .refused("transfer(1, 1, 3, 1)", INVALID).refused("street(0, 3, 7)", INVALID)
                .refused("count(9)", INVALID).refused("covers(0, 0, 4, 4)", INVALID)
                .refused("area(0, 256)", INVALID).refused("refusal(0, 3, 10, 1)", INVALID)
                .refused("apply(0, 3, 24, 255)", IMPOSSIBLE)
                .refused("apply(0, 3, 42, 255)", INVALID).refused("withdraw(1)", IMPOSSIBLE)
                .refused("withdraw(3)", IMPOSSIBLE).refused("withdraw(5)", INVALID)
                .refused("permit(0, 6)", INVALID).refused("inOrder(-1)", INVALID)
                .refused("inOrder(3)", NOT_FOUND).refused("shares(0, 5)", INVALID)
                .refused("inTheWay(0, 3, 24, 1)", NOT_FOUND)
                .refused("inTheWay(0, 3, 24, 0)", INVALID)
                .refused("firstFree(0, 1, 11, 0)", INVALID).refused("type(127)", INVALID)
                .refused("fault(2)", INVALID).refused("enter()", IMPOSSIBLE);
        Sites.eightCranes().refused("crane(0, 0, 1, 10, 0, 1)", LIMIT);
        Sites.valid(24).refused("apply(0, 24, 0, 1)", LIMIT);
        Sites.neighbours().then("undo()", "undo()", "undo()").refused("undo()", IMPOSSIBLE);
    }

    static void errorsChangeNothingBehindAFaultInALaterApplication() {
        Doc.says("Changes and errors", "A call that returns an error changes nothing.");
        Run run = Sites.neighbours().then("apply(1, 29, 0, 1)");
        String[] ends = {"x", "3n0h0-0s1;", "0n0h0-0s1;", "1n0h0-0s255;", "0n1h0-9s1;2n1h0-9s1;"};
        for (String end : ends) {
            run.then("clearText()").write("0n0h0-0s255;2n5h1-2s3;" + end);
            run.refused("enter()", IMPOSSIBLE).unchanged("fault(0)").unchanged("fault(1)");
        }
    }

    static void errorsNoCraneWithThisNumber() {
        Doc.says("Changes and errors", "If there is no crane or permit (granted ever) with a certain"
                + " number, this is INVALID_ARGUMENT.");
        String[] calls = {"noise(#, 1)", "craneOf(#, 0)", "covers(#, 1, 0, 0)", "area(#, 1)",
            "refusal(#, 0, 0, 1)", "apply(#, 0, 0, 1)", "inTheWay(#, 0, 0, 1)",
            "firstFree(#, 1, 1, 0)"};
        for (String call : calls) {
            Run.of().refused(Run.with(call, 0), INVALID);
            Sites.oneCrane().refused(Run.with(call, 1), INVALID)
                    .refused(Run.with(call, -1), INVALID);
            Sites.eightCranes().refused(Run.with(call, 8), INVALID)
                    .then("undo()").refused(Run.with(call, 7), INVALID);
        }
    }

    static void errorsNoPermitGrantedEverWithThisNumber() {
        Doc.says("Changes and errors", "or permit (granted ever) with a certain number, this is"
                + " INVALID_ARGUMENT.");
        Run run = Sites.farApart().then("apply(0, 0, 0, 1)", "apply(0, 1, 0, 1)", "withdraw(0)",
                "wind(1, 85)", "apply(0, 2, 0, 1)", "undo()");
        run.due("permit(0, 5)", 2).due("permit(1, 5)", 3).due("shares(0, 1)", 0)
                .due("shares(1, 0)", 0);
        run.refused("withdraw(0)", IMPOSSIBLE).refused("withdraw(1)", IMPOSSIBLE)
                .refused("withdraw(2)", INVALID).refused("withdraw(-1)", INVALID)
                .refused("permit(2, 5)", INVALID).refused("permit(-1, 5)", INVALID)
                .refused("shares(2, 0)", INVALID).refused("shares(0, 2)", INVALID)
                .refused("shares(-1, 0)", INVALID).refused("shares(0, -1)", INVALID);
    }

    static void errorsAsConstants() {
        Doc.says("Changes and errors", "The constants: `INVALID_ARGUMENT = -1001`: An argument is out"
                + " of its range, or there is no such crane or permit.");
        Due.is("INVALID_ARGUMENT", CranePermits.INVALID_ARGUMENT, -1001);
        Run.of().due("craneOf(0, 0)", -1001).due("permit(0, 0)", -1001)
                .due("count(9)", -1001);
        Doc.says("Changes and errors", "`NOT_POSSIBLE = -1002`: The call is not possible in the"
                + " present state.");
        Due.is("NOT_POSSIBLE", CranePermits.NOT_POSSIBLE, -1002);
        Run.of().due("undo()", -1002);
        Doc.says("Changes and errors", "`LIMIT_REACHED = -1003`: A fixed limit has been reached.");
        Due.is("LIMIT_REACHED", CranePermits.LIMIT_REACHED, -1003);
        Sites.eightCranes().due("crane(0, 0, 1, 10, 0, 1)", -1003);
        Doc.says("Changes and errors", "`NOT_FOUND = -1004`: There is no such value.");
        Due.is("NOT_FOUND", CranePermits.NOT_FOUND, -1004);
        Run.of().due("inOrder(0)", -1004).due("fault(0)", -1004);
    }
}
