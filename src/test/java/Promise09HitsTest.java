/** Promise 9: hits. What HITS are, is tested in TermsHitsTest. */
final class Promise09HitsTest {
    private static final int[] NEVER = {-1, 24, 25, Integer.MIN_VALUE, Integer.MAX_VALUE};

    public static void main(String[] args) {
        nodesInsideOthers();
        theFirstAndTheLastToken();
        documentsWithoutWords();
        ifThereIsNoToken();
        ifThereIsNoDocument();
        ifTheQueryIsNotWhole();
        ifItIsAnOperator();
        whatIsNamedFirstIsThrown();
        Check.end();
    }

    private static void nodesInsideOthers() {
        Check.sentence("TF of the NODE that begins with TOKEN t (0 the first) in DOCUMENT d.");
        BeliefForge forge = Check.forge("1 2|3 1 2", "2 2");
        Check.query(forge, 5, 3, 1, 2, 1, 2, 0, 1, 1, 0, 2, 1, 10, 0, 1, 1, 2, 1, 4, 0, 1, 0, 3, 1);
        int[] tokens = {1, 2, 3, 5, 6, 7};
        int[] inFirst = {2, 2, 2, 1, 1, 1};
        int[] inSecond = {0, 0, 2, 0, 0, 0};
        for (int i = 0; i < tokens.length; i++) {
            Check.same("hits(" + tokens[i] + ", 0)", inFirst[i], forge.hits(tokens[i], 0));
            Check.same("hits(" + tokens[i] + ", 1)", inSecond[i], forge.hits(tokens[i], 1));
        }
    }

    private static void theFirstAndTheLastToken() {
        Check.sentence("TF of the NODE that begins with TOKEN t (0 the first) in DOCUMENT d.");
        BeliefForge forge = Check.forge("", "", "", "", "", "", "", "", "", "", "", "1 1");
        Check.query(forge, 0, 1, 1);
        Check.same("hits(0, 11)", 2, forge.hits(0, 11));
        forge.clear();
        for (int i = 0; i < 22; i++) {
            forge.token(10, 0, 1.0);
        }
        forge.token(3, 2, 1.0);
        forge.token(0, 1, 1.0);
        Check.same("hits(22, 11)", 2, forge.hits(22, 11));
        Check.same("hits(23, 11)", 2, forge.hits(23, 11));
    }

    private static void documentsWithoutWords() {
        Check.sentence("TF of the NODE that begins with TOKEN t (0 the first) in DOCUMENT d.");
        BeliefForge forge = Check.forge("", "1");
        forge.document(24);
        for (double[] query : new double[][] {{0, 0, 1}, {1, 0, 1}, {2, 1, 1, 0, 0, 1}, {3, 1, 1, 0, 0, 1}, {4, 0, 1, 0, 0, 1}}) {
            Check.query(forge, query);
            Check.same("hits(0, 0)", 0, forge.hits(0, 0));
            Check.same("hits(0, 2)", 0, forge.hits(0, 2));
        }
    }

    private static void ifThereIsNoToken() {
        Check.sentence("IndexOutOfBoundsException if there is no TOKEN t or DOCUMENT d");
        BeliefForge forge = Check.forge("1", "1", "1");
        Check.index("hits(0, 0) of an empty query", () -> forge.hits(0, 0));
        Check.query(forge, 10, 0, 1, 0, 1, 1);
        Check.refused(forge, "hits(2, 0) of two tokens", IndexOutOfBoundsException.class, () -> forge.hits(2, 0));
        for (int t : NEVER) {
            Check.index("hits(" + t + ", 0)", () -> forge.hits(t, 0));
        }
        forge.clear();
        forge.token(0, 1, 1.0);
        Check.same("hits(0, 2)", 1, forge.hits(0, 2));
        Check.index("hits(1, 2), a token of the query before", () -> forge.hits(1, 2));
    }

    private static void ifThereIsNoDocument() {
        Check.sentence("IndexOutOfBoundsException if there is no TOKEN t or DOCUMENT d");
        BeliefForge none = new BeliefForge();
        Check.query(none, 0, 1, 1);
        Check.index("hits(0, 0) without documents", () -> none.hits(0, 0));
        BeliefForge one = Check.forge("1");
        Check.query(one, 2, 1, 2, 0, 1, 1, 0, 1, 1);
        Check.refused(one, "hits(0, 1) of one", IndexOutOfBoundsException.class, () -> one.hits(0, 1));
        BeliefForge twelve = Check.forge("1", "1", "1", "1", "1", "1", "1", "1", "1", "1", "1", "1");
        Check.query(twelve, 0, 1, 1);
        Check.same("hits(0, 11) of twelve", 1, twelve.hits(0, 11));
        for (int d : new int[] {-1, 12, 13, 24, Integer.MIN_VALUE, Integer.MAX_VALUE}) {
            Check.index("hits(0, " + d + ") of one", () -> one.hits(0, d));
            Check.index("hits(0, " + d + ") of twelve", () -> twelve.hits(0, d));
        }
    }

    private static void ifTheQueryIsNotWhole() {
        Check.sentence("IllegalStateException if the QUERY is not WHOLE");
        BeliefForge forge = Check.forge("1");
        double[][] parts = {{5, 2, 1, 0, 1, 1}, {11, 0, 1, 0, 1, 1}, {4, 0, 2, 0, 1, 1}, {3, 1, 4, 0, 1, 1, 0, 1, 1, 0, 1, 1}};
        for (double[] part : parts) {
            Check.query(forge, part);
            Check.state("hits(0, 0) of a part of a query", () -> forge.hits(0, 0));
            Check.state("hits(1, 0) of a part of a query", () -> forge.hits(1, 0));
        }
        Check.refused(forge, "hits(1, 0) of a part of a query", IllegalStateException.class, () -> forge.hits(1, 0));
        forge.clear();
        for (int i = 0; i < 12; i++) {
            forge.token(5, 2, 1.0);
            forge.token(0, 1, 1.0);
        }
        Check.state("hits(1, 0) of a full query that is not whole", () -> forge.hits(1, 0));
    }

    private static void ifItIsAnOperator() {
        Check.sentence("UnsupportedOperationException if it is none of 0 to 4.");
        for (int kind = 5; kind <= 11; kind++) {
            BeliefForge forge = Check.forge("1");
            forge.token(kind, 1, 1.0);
            while (forge.wanted() > 0) {
                forge.token(0, 1, 1.0);
            }
            Check.refused(forge, "hits of kind " + kind, UnsupportedOperationException.class, () -> forge.hits(0, 0));
            Check.same("hits of a part of kind " + kind, 1, forge.hits(1, 0));
        }
        for (int kind = 0; kind <= 4; kind++) {
            BeliefForge forge = Check.forge("1|");
            forge.token(kind, 1, 1.0);
            while (forge.wanted() > 0) {
                forge.token(0, 1, 1.0);
            }
            Check.same("hits of kind " + kind, 1, forge.hits(0, 0));
        }
    }

    private static void whatIsNamedFirstIsThrown() {
        Check.sentence("IndexOutOfBoundsException, IllegalStateException, UnsupportedOperationException");
        BeliefForge forge = Check.forge("1");
        forge.token(10, 0, 1.0);
        Check.state("an operator in a part of a query", () -> forge.hits(0, 0));
        Check.index("no token in a part of a query", () -> forge.hits(1, 0));
        Check.index("no document for a part of a query", () -> forge.hits(0, 1));
        forge.token(0, 1, 1.0);
        Check.index("no document for an operator", () -> forge.hits(0, 1));
        Check.unsupported("an operator", () -> forge.hits(0, 0));
    }
}
