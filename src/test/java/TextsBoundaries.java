/** A test for each sentence of the document's promises 22 to 25. */
final class TextsBoundaries {
    private static final int INVALID = Sites.INVALID;
    private static final int IMPOSSIBLE = Sites.IMPOSSIBLE;
    private static final int LIMIT = Sites.LIMIT;
    private static final int NOT_FOUND = Sites.NOT_FOUND;

    private TextsBoundaries() {
    }

    // ---- 22: type

    static void promise22AppendsACharacter() {
        Doc.says("Promise 22", "Appends a character to the text.");
        Sites.oneCrane().write("0n0h0-0s1").due("fault(1)", 11).write(";")
                .due("fault(1)", NOT_FOUND).write("0").due("fault(0)", 10);
    }

    static void promise22Character() {
        Doc.says("Promise 22", "`character`: 32 to 126");
        Run.of().range("type(#)", 32, 126);
        Sites.ofEverything().range("type(#)", 32, 126);
        for (int character = 32; character <= 126; character++) {
            Run.of().due("type(" + character + ")", 1);
        }
    }

    static void promise22ReturnsTheLength() {
        Doc.says("Promise 22", "Returns the length of the text;");
        Run run = Run.of();
        for (int length = 1; length <= 80; length++) {
            run.due("type(" + (32 + length) + ")", length);
        }
        run.due("count(8)", 80).then("clearText()").due("type(32)", 1);
    }

    static void promise22InvalidArgument() {
        Doc.says("Promise 22", "INVALID_ARGUMENT if character is out of range;");
        Run.of().write("x").refused("type(31)", INVALID).refused("type(127)", INVALID)
                .refused("type(0)", INVALID).refused("type(10)", INVALID)
                .refused("type(-48)", INVALID).refused("type(160)", INVALID)
                .refused("type(" + (256 + 48) + ")", INVALID)
                .refused("type(" + (65536 + 48) + ")", INVALID).due("type(48)", 2);
    }

    static void promise22LimitReachedIfItHas80Characters() {
        Doc.says("Promise 22", "LIMIT_REACHED if it has 80 characters.");
        Run run = Sites.oneCrane().write("0n0h0-0s1;".repeat(7)).write("0n0h0-0s1")
                .due("count(8)", 79).due("type(59)", 80);
        run.refused("type(59)", LIMIT).refused("type(32)", LIMIT).refused("type(126)", LIMIT)
                .due("count(8)", 80).due("fault(0)", 10).then("clearText()").due("type(59)", 1);
    }

    // ---- 23: clearText

    static void promise23EmptiesTheText() {
        Doc.says("Promise 23", "Empties the text.");
        Sites.oneCrane().write("0n0h").then("clearText()").due("count(8)", 0)
                .due("fault(0)", NOT_FOUND).write("0-0s1;").due("fault(1)", 11)
                .due("count(8)", 6).then("clearText()").write("0n0h0-0s1;")
                .due("fault(1)", NOT_FOUND);
        Sites.oneCrane().write("0n0h0-0s1;0").then("clearText()").write("0n0h0-0s1;")
                .due("fault(0)", NOT_FOUND).due("enter()", 1);
    }

    static void promise23NothingIsLeftBehindTheEnd() {
        Doc.says("Promise 23", "Empties the text.");
        Run run = Sites.oneCrane().write("0n0h0-0s1;0n0h0-0s1;").then("clearText()");
        run.write("0n0h0-0s1").due("fault(0)", 0).due("fault(1)", 11).write(";")
                .due("fault(0)", NOT_FOUND).due("enter()", 1).due("count(2)", 1);
    }

    static void promise23ReturnsTheLengthItHad() {
        Doc.says("Promise 23", "Returns the length it had.");
        Run.of().due("clearText()", 0).due("clearText()", 0).write("x").due("clearText()", 1)
                .due("clearText()", 0).write("y".repeat(80)).due("clearText()", 80)
                .due("clearText()", 0).due("count(7)", 0);
    }

    // ---- 24: fault

    static void promise24TellsAboutTheFault() {
        Doc.says("Promise 24", "Tells about the fault of the text.");
        Doc.says("Promise 24", "Returns that;");
        Sites.oneCrane().write("0n0h0-0s1;0n0h0-0s256;").unchanged("fault(0)")
                .unchanged("fault(1)").due("fault(0)", 10).due("fault(1)", 12)
                .due("count(2)", 0).due("count(8)", 22);
    }

    static void promise24What() {
        Doc.says("Promise 24", "`what`: 0: its position; 1: its reason");
        Run.of().write("x").range("fault(#)", 0, 1);
        Run.of().write("x").due("fault(0)", 0).due("fault(1)", 11);
        Sites.ofEverything().range("fault(#)", 0, 1);
    }

    static void promise24InvalidArgument() {
        Doc.says("Promise 24", "INVALID_ARGUMENT if what is out of range;");
        Run.of().refused("fault(-1)", INVALID).refused("fault(2)", INVALID);
        Run.of().write("x").refused("fault(-1)", INVALID).refused("fault(2)", INVALID)
                .refused("fault(11)", INVALID);
    }

    static void promise24NotFoundIfThereIsNoFault() {
        Doc.says("Promise 24", "NOT_FOUND if the text has no fault");
        Sites.oneCrane().write("0n0h0-0s1;").refused("fault(0)", NOT_FOUND)
                .refused("fault(1)", NOT_FOUND);
        Sites.oneCrane().write("0n0h0-0s1;0n1h0-0s1;0n2h0-0s1;0n3h0-0s1;0n4h0-0s1;0n5h0-0s1;"
                + "0n6h0-0s1;0n7h0-0s1;").due("count(8)", 80).refused("fault(0)", NOT_FOUND)
                .refused("fault(1)", NOT_FOUND).due("enter()", 8);
    }

    static void promise24NotFoundIfItIsEmpty() {
        Doc.says("Promise 24", "(also if it is empty).");
        Run.of().refused("fault(0)", NOT_FOUND).refused("fault(1)", NOT_FOUND);
        Run.of().write("x").then("clearText()").refused("fault(0)", NOT_FOUND)
                .refused("fault(1)", NOT_FOUND);
        Sites.valid(24).refused("fault(0)", NOT_FOUND);
    }

    // ---- 25: enter

    static void promise25GrantsAllApplications() {
        Doc.says("Promise 25", "Grants all applications of the text");
        Run run = Sites.neighbours().then("apply(0, 9, 0, 1)")
                .write("0n0h2-5s255;1n13h6-9s7;2n29h9-9s064;").due("enter()", 3);
        int[][] want = {{0, 0, 25, 255, 8, 1}, {1, 13, 69, 7, 12, 1}, {2, 29, 99, 64, 4, 1}};
        for (int permit = 0; permit <= 2; permit++) {
            for (int what = 0; what <= 5; what++) {
                run.due("permit(" + (permit + 1) + ", " + what + ")", want[permit][what]);
            }
        }
        run.due("count(1)", 4).due("inOrder(0)", 1).due("inOrder(1)", 0).due("inOrder(3)", 3)
                .due("street(0, 0, 4)", 8).due("street(1, 13, 4)", 12)
                .due("apply(0, 10, 0, 1)", 4);
    }

    static void promise25UpToTheLimits() {
        Doc.says("Promise 25", "Grants all applications of the text");
        Sites.valid(23).write("0n29h0-0s1;").due("enter()", 1).due("count(1)", 24)
                .refused("enter()", IMPOSSIBLE).then("clearText()").due("enter()", 0)
                .refused("apply(0, 28, 0, 1)", LIMIT);
        Sites.withdrawn(199).write("0n0h0-0s1;").due("enter()", 1).due("permit(199, 5)", 1)
                .refused("apply(0, 1, 0, 1)", LIMIT);
        Sites.valid(16).write("0n20h0-0s1;0n21h0-0s1;0n22h0-0s1;0n23h0-0s1;0n24h0-0s1;"
                + "0n25h0-0s1;0n26h0-0s1;").due("enter()", 7).due("count(1)", 23)
                .due("apply(0, 27, 0, 1)", 23).refused("apply(0, 28, 0, 1)", LIMIT);
    }

    static void promise25TheTextStays() {
        Doc.says("Promise 25", "which stays.");
        Sites.oneCrane().write("0n0h0-0s1;").then("enter()").due("count(8)", 10)
                .due("fault(0)", 0).due("fault(1)", 1).refused("enter()", IMPOSSIBLE)
                .then("withdraw(0)").due("enter()", 1).due("permit(1, 5)", 1)
                .due("clearText()", 10);
    }

    static void promise25IsOneChange() {
        Doc.says("Promise 25", "It is one change");
        Run run = Sites.neighbours().write("0n0h0-0s1;0n1h0-0s1;0n2h0-0s1;0n3h0-0s1;0n4h0-0s1;"
                + "0n5h0-0s1;0n6h0-0s1;0n7h0-0s1;").restored("enter()").due("enter()", 8)
                .due("count(7)", 4).due("undo()", 3).due("count(2)", 0).due("count(1)", 0);
        run.due("enter()", 8).then("wind(7, 80)").due("permit(7, 5)", 3).due("undo()", 3)
                .due("count(1)", 8).due("undo()", 2).due("count(1)", 0).due("count(0)", 3);
    }

    static void promise25IsOneChangeAlsoIfThereAreNone() {
        Doc.says("Promise 25", "also if there are none.");
        Run.of().restored("enter()").due("enter()", 0).due("count(7)", 1).due("undo()", 0);
        Run.of("wind(0, 1)", "wind(0, 2)", "wind(0, 3)", "wind(0, 4)").due("enter()", 0)
                .due("enter()", 0).due("count(7)", 4).then("undo()", "undo()")
                .due("street(0, 0, 6)", 4).then("undo()", "undo()").due("street(0, 0, 6)", 2)
                .refused("undo()", IMPOSSIBLE);
    }

    static void promise25ReturnsHowManyThereAre() {
        Doc.says("Promise 25", "Returns how many there are in it;");
        StringBuilder text = new StringBuilder();
        for (int many = 0; many <= 8; many++) {
            Sites.oneCrane().write(text.toString()).due("enter()", many).due("count(2)", many);
            text.append("0n").append(many).append("h0-0s1;");
        }
    }

    static void promise25NotPossibleIfItHasAFault() {
        Doc.says("Promise 25", "NOT_POSSIBLE if it has a fault.");
        String[] faulty = {"x", ";", "0n0h0-0s1", "3n0h0-0s1;", "0n30h0-0s1;", "0n0h1-0s1;",
            "0n0h0-0s0;", "0n0h0-0s256;", "0n9h0-0s1;", "0n8h0-0s1;", "1n9h0-0s255;",
            "0n0h0-9s1;2n0h0-9s1;", "0n0h0-0s1;0n1h0-0s1;0n0h0-0s1;", "0n0h0-0s1; "};
        Run run = Sites.neighbours().then("apply(0, 9, 0, 255)", "wind(8, 80)");
        for (String text : faulty) {
            run.again().write(text).refused("enter()", IMPOSSIBLE);
        }
        Sites.valid(24).write("0n24h0-0s1;").refused("enter()", IMPOSSIBLE);
        Sites.valid(23).write("0n24h0-0s1;0n25h0-0s1;").refused("enter()", IMPOSSIBLE);
        Sites.withdrawn(199).write("0n0h0-0s1;0n1h0-0s1;").refused("enter()", IMPOSSIBLE);
        Sites.withdrawn(200).write("0n0h0-0s1;").refused("enter()", IMPOSSIBLE);
    }

    // ---- ahead of the promises

    static void usedForAtMost512Calls() {
        Doc.says("What it is", "An object is used for at most 512 calls after it has been made;");
        Run run = Sites.withdrawn(200).write("0n0h0-0s1;");
        while (run.length() < 510) {
            run.then("clearText()");
        }
        run.due("count(2)", 200).due("undo()", 3);
        Due.is("the calls of the run", run.length(), 512);
    }
}
