/** Promise 13: model. What A MODEL is, is tested in TermsModelTest. */
final class Promise13ModelTest {
    private static final int[] WRONG = {0, -1, 5, 24, Integer.MIN_VALUE, Integer.MAX_VALUE};

    public static void main(String[] args) {
        howManyTokensItHas();
        theQueryBecomesAModel();
        theBeliefsOfThen();
        ofTheLatestSearch();
        forAnotherN();
        ifNothingIsFound();
        whatIsNamedFirstIsThrown();
        Check.end();
    }

    private static void howManyTokensItHas() {
        Check.sentence("of n (1 to 4) WORDS at most: how many TOKENS it has.");
        String[] texts = {"1", "1 2", "1 2 3", "1 2 3 4", "1 2 3 4 5"};
        int[] tokens = {0, 1, 3, 4, 5};
        for (int words = 1; words <= 5; words++) {
            BeliefForge forge = Check.forge(texts[words - 1]);
            Check.query(forge, 0, 1, 1);
            forge.search(1);
            for (int n = 1; n <= 4; n++) {
                int due = tokens[Math.min(n, words)];
                Check.same("model(" + n + ") of " + words + " words", due, forge.model(n));
                Check.same("tokens of model(" + n + ") of " + words + " words", due, forge.count(2));
            }
        }
    }

    private static void theQueryBecomesAModel() {
        Check.sentence("The QUERY becomes A MODEL");
        double[][] before = {{}, {0, 1, 1}, {2, 1, 3, 0, 1, 1}, {11, 0, 1}, {7, 4, 1, 0, 1, 1}};
        for (double[] query : before) {
            BeliefForge forge = Check.forge("1 1 2", "3 3 4", "5");
            Check.query(forge, 0, 1, 1);
            forge.search(1);
            Check.query(forge, query);
            Check.same("model(2)", 3, forge.model(2));
            itIsAQuery(forge);
        }
    }

    private static void itIsAQuery(BeliefForge forge) {
        Check.same("wanted", 0, forge.wanted());
        Check.state("a token behind it", () -> forge.token(0, 1, 1.0));
        Check.index("told(3, 0)", () -> forge.told(3, 0));
        Check.same("hits of its first TERM", 2, forge.hits(1, 0));
        double u = forge.told(1, 2);
        double v = forge.told(2, 2);
        double one = (2 + 2.0 * (2.0 / 7)) / (3 + 2.0);
        double two = (1 + 2.0 * (1.0 / 7)) / (3 + 2.0);
        Check.same("belief(0)", (0.0 + u * one + v * two) / (0.0 + u + v), forge.belief(0));
        Check.same("search(10)", 3, forge.search(10));
        Check.same("clear", 3, forge.clear());
        Check.same("no TERM is wanted", 1, forge.token(10, 1, 1.0));
    }

    private static void theBeliefsOfThen() {
        Check.sentence("with the BELIEFS of then");
        BeliefForge forge = Check.forge("1 2");
        Check.query(forge, 0, 1, 1);
        forge.search(1);
        double p = forge.score(0);
        forge.word(5);
        forge.smooth(1, 0.5);
        Check.query(forge, 10, 0, 1, 0, 5, 1);
        forge.belief(0);
        Check.same("model(1)", 1, forge.model(1));
        Check.same("its weight", p * (1.0 / 3), forge.told(0, 2));
        Check.same("score(0) stays", p, forge.score(0));
        Check.same("found stays", 1, forge.count(3));
    }

    private static void ofTheLatestSearch() {
        Check.sentence("the DOCUMENTS FOUND by the latest SEARCH");
        BeliefForge forge = Check.forge("1 1 1", "2 2 2", "3 3 3");
        Check.query(forge, 0, 1, 1);
        forge.search(10);
        Check.same("model(4) of three", 4, forge.model(4));
        Check.query(forge, 0, 3, 1);
        forge.search(1);
        Check.same("model(4) of the one of the latest search", 1, forge.model(4));
        Check.same("its word", 3.0, forge.told(0, 1));
        Check.same("model(4) once more, without another search", 1, forge.model(4));
        Check.same("its word once more", 3.0, forge.told(0, 1));
        tenOfTwelve();
    }

    /** The two that were not among the first ten have a WORD of their own. */
    private static void tenOfTwelve() {
        BeliefForge forge = Check.forge("2", "1", "1", "1", "1", "1", "1", "1", "1", "1", "1", "2");
        Check.query(forge, 0, 1, 1);
        forge.search(10);
        Check.same("model(4) of ten of twelve", 1, forge.model(4));
        Check.same("its word", 1.0, forge.told(0, 1));
    }

    private static void forAnotherN() {
        Check.sentence("IllegalArgumentException for another n");
        for (int n : WRONG) {
            BeliefForge forge = Check.forge("1 2", "3 4 5 6 7");
            Check.query(forge, 10, 0, 1, 0, 1, 1);
            forge.search(2);
            Check.refused(forge, "model(" + n + ")", IllegalArgumentException.class, () -> forge.model(n));
            Check.query(forge, 2, 1, 2);
            Check.refused(forge, "model(" + n + ") in a part of a query", IllegalArgumentException.class, () -> forge.model(n));
        }
    }

    private static void ifNothingIsFound() {
        Check.sentence("IllegalStateException if nothing is FOUND.");
        BeliefForge forge = Check.forge("1 2", "3");
        Check.query(forge, 11, 0, 1, 0, 9, 1, 0, 1, 1);
        for (int n = 1; n <= 4; n++) {
            int words = n;
            Check.refused(forge, "model before a search", IllegalStateException.class, () -> forge.model(words));
        }
        BeliefForge nothing = Check.forge("1 2", "3");
        Check.query(nothing, 0, 1, 1);
        Check.same("search that finds", 1, nothing.search(1));
        Check.query(nothing, 11, 0, 1, 0, 9, 1, 0, 1, 1);
        Check.same("search that finds nothing", 0, nothing.search(1));
        Check.refused(nothing, "model(1)", IllegalStateException.class, () -> nothing.model(1));
        BeliefForge empty = Check.forge("");
        Check.query(empty, 0, 1, 1);
        Check.same("search without words", 0, empty.search(1));
        Check.refused(empty, "model(1) without words", IllegalStateException.class, () -> empty.model(1));
    }

    private static void whatIsNamedFirstIsThrown() {
        Check.sentence("IllegalArgumentException, IllegalStateException");
        BeliefForge forge = Check.forge("1 2");
        for (int n : WRONG) {
            Check.argument("model(" + n + ") before a search", () -> forge.model(n));
        }
    }
}
