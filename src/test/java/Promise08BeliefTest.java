/** Promise 8: belief. What a BELIEF is, is tested in TermsBeliefTest and TermsMustTest. */
final class Promise08BeliefTest {
    private static final int[] NEVER = {-1, 12, 13, 24, Integer.MIN_VALUE, Integer.MAX_VALUE};

    public static void main(String[] args) {
        theBelief();
        ifThereIsNoDocument();
        ifItHasNoWords();
        ifTheQueryIsNotWhole();
        ifItIsLeftOut();
        whatIsNamedFirstIsThrown();
        itFollowsTheDocuments();
        Check.end();
    }

    private static void theBelief() {
        Check.sentence("THE BELIEF of DOCUMENT d in the QUERY.");
        BeliefForge forge = Check.forge("1 2 3", "1 1 4 5 6 7 8");
        Check.query(forge, 10, 0, 1, 0, 1, 1);
        Check.same("belief(0)", 1 - (1 + 2.0 * (3.0 / 10)) / (3 + 2.0), forge.belief(0));
        Check.same("belief(1)", 1 - (2 + 2.0 * (3.0 / 10)) / (7 + 2.0), forge.belief(1));
        Check.same("belief(0) again", 1 - (1 + 2.0 * (3.0 / 10)) / (3 + 2.0), forge.belief(0));
        theLastOfTwelve();
    }

    private static void theLastOfTwelve() {
        BeliefForge forge = Check.forge("", "", "", "", "", "", "", "", "", "", "3", "1 2");
        Check.query(forge, 0, 1, 1);
        Check.same("belief(11)", (1 + 2.0 * (1.0 / 3)) / (2 + 2.0), forge.belief(11));
        Check.same("belief(10)", (0 + 2.0 * (1.0 / 3)) / (1 + 2.0), forge.belief(10));
    }

    private static void ifThereIsNoDocument() {
        Check.sentence("IndexOutOfBoundsException if there is no DOCUMENT d");
        BeliefForge none = new BeliefForge();
        Check.query(none, 0, 1, 1);
        Check.index("belief(0) of none", () -> none.belief(0));
        BeliefForge two = Check.forge("1 2", "1");
        Check.query(two, 0, 1, 1);
        Check.refused(two, "belief(2) of two", IndexOutOfBoundsException.class, () -> two.belief(2));
        Check.refused(two, "belief(-1) of two", IndexOutOfBoundsException.class, () -> two.belief(-1));
        BeliefForge twelve = Check.forge("1", "1", "1", "1", "1", "1", "1", "1", "1", "1", "1", "1");
        Check.query(twelve, 0, 1, 1);
        for (int d : NEVER) {
            Check.index("belief(" + d + ") of none", () -> none.belief(d));
            Check.index("belief(" + d + ") of two", () -> two.belief(d));
            Check.index("belief(" + d + ") of twelve", () -> twelve.belief(d));
        }
    }

    private static void ifItHasNoWords() {
        Check.sentence("IndexOutOfBoundsException if there is no DOCUMENT d, or it has no WORDS");
        BeliefForge forge = Check.forge("", "1 2");
        forge.document(24);
        Check.query(forge, 0, 1, 1);
        Check.refused(forge, "belief(0), without words", IndexOutOfBoundsException.class, () -> forge.belief(0));
        Check.index("belief(2), with a title but without words", () -> forge.belief(2));
        forge.word(9);
        Check.same("belief(2), with a word", (0 + 2.0 * (1.0 / 3)) / (1 + 2.0), forge.belief(2));
    }

    private static void ifTheQueryIsNotWhole() {
        Check.sentence("IllegalStateException if the QUERY is not WHOLE");
        BeliefForge forge = Check.forge("1 2");
        Check.refused(forge, "belief(0) in an empty query", IllegalStateException.class, () -> forge.belief(0));
        double[][] parts = {{5, 1, 1}, {10, 0, 1}, {11, 0, 1}, {11, 0, 1, 0, 9, 1}, {4, 0, 2, 0, 1, 1}, {8, 2, 1, 0, 1, 1}};
        for (double[] part : parts) {
            Check.query(forge, part);
            Check.state("belief(0) in a part of a query", () -> forge.belief(0));
        }
        forge.clear();
        for (int i = 0; i < 24; i++) {
            forge.token(10, 0, 1.0);
        }
        Check.state("belief(0) in a full query that is not whole", () -> forge.belief(0));
    }

    private static void ifItIsLeftOut() {
        Check.sentence("NoSuchElementException if it is LEFT OUT.");
        BeliefForge forge = Check.forge("1 2", "2 2");
        Check.query(forge, 11, 0, 1, 0, 1, 1, 0, 2, 1);
        forge.search(10);
        Check.refused(forge, "belief(1)", java.util.NoSuchElementException.class, () -> forge.belief(1));
        Check.same("belief(0)", (1 + 2.0 * (3.0 / 4)) / (2 + 2.0), forge.belief(0));
        forge.word(1);
        Check.same("belief(1) when it is not left out", (2 + 2.0 * (3.0 / 5)) / (3 + 2.0), forge.belief(1));
    }

    private static void whatIsNamedFirstIsThrown() {
        Check.sentence("IndexOutOfBoundsException, IllegalStateException, java.util.NoSuchElementException");
        BeliefForge forge = Check.forge("1 2", "");
        for (int d : NEVER) {
            Check.index("belief(" + d + ") in an empty query", () -> forge.belief(d));
        }
        Check.index("belief(1), without words, in an empty query", () -> forge.belief(1));
        forge.token(11, 0, 1.0);
        forge.token(0, 9, 1.0);
        Check.state("belief(0) in a part of a query that leaves it out", () -> forge.belief(0));
        forge.token(0, 1, 1.0);
        Check.missing("belief(0)", () -> forge.belief(0));
        Check.index("belief(1), without words, in a query that leaves it out", () -> forge.belief(1));
    }

    private static void itFollowsTheDocuments() {
        Check.sentence("THE BELIEF of DOCUMENT d in the QUERY.");
        BeliefForge forge = Check.forge("1 2");
        Check.query(forge, 0, 1, 1);
        Check.same("belief(0)", (1 + 2.0 * (1.0 / 2)) / (2 + 2.0), forge.belief(0));
        Check.add(forge, "1 1 5");
        Check.same("belief(0) with more documents", (1 + 2.0 * (3.0 / 5)) / (2 + 2.0), forge.belief(0));
        forge.search(1);
        Check.same("belief(0) after a search", (1 + 2.0 * (3.0 / 5)) / (2 + 2.0), forge.belief(0));
        forge.word(1);
        Check.same("belief(0) after another word", (1 + 2.0 * (4.0 / 6)) / (2 + 2.0), forge.belief(0));
    }
}
