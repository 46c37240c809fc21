/**
 * The sentences of the document, the boundary cases that they name above all: a test for each of
 * them, which is named by the promise or the section and tells the sentence that it is about.
 */
public final class BoundariesTest {
    public static void main(String[] args) throws Exception {
        Doc.read();
        Doc.runTestsOf(TermsBoundaries.class);
        Doc.runTestsOf(ChangesBoundaries.class);
        Doc.runTestsOf(NightsBoundaries.class);
        Doc.runTestsOf(PermitsBoundaries.class);
        Doc.runTestsOf(TextsBoundaries.class);
        Doc.eachSentenceIsTested();
        Due.end();
    }
}
