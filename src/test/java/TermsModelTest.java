/** The document's terms: A MODEL. */
final class TermsModelTest {
    public static void main(String[] args) {
        ofTheDocumentsAsTheyAreNow();
        byTheirOrder();
        theNGreatest();
        ofSeveralTheLeast();
        aboveZero();
        theTermAlone();
        anEmptyQuery();
        theWOfThePoint();
        theFirstAndTheLastWord();
        Check.end();
    }

    private static void due(BeliefForge forge, int t, int kind, int a, double w) {
        Check.same("kind of token " + t, (double) kind, forge.told(t, 0));
        Check.same("a of token " + t, (double) a, forge.told(t, 1));
        Check.same("w of token " + t, w, forge.told(t, 2));
    }

    private static BeliefForge searched(int k, String... texts) {
        BeliefForge forge = Check.forge(texts);
        Check.query(forge, 0, 1, 1);
        forge.search(k);
        return forge;
    }

    private static void ofTheDocumentsAsTheyAreNow() {
        Check.sentence("for each WORD (of the DOCUMENTS as they are now)");
        BeliefForge forge = searched(1, "1 2");
        double p = forge.score(0);
        forge.word(5);
        forge.word(5);
        forge.word(5);
        Check.same("model(2)", 3, forge.model(2));
        due(forge, 1, 0, 5, p * (3.0 / 5));
        due(forge, 2, 0, 1, p * (1.0 / 5));
        // one that was not FOUND has no part in it
        Check.add(forge, "7 7 7");
        Check.same("model(4)", 4, forge.model(4));
        due(forge, 1, 0, 5, p * (3.0 / 5));
        due(forge, 3, 0, 2, p * (1.0 / 5));
    }

    /** A sum by rising numbers, or from the last one FOUND to the first, has other last bits. */
    private static void byTheirOrder() {
        Check.sentence("the sum (from 0.0, by their order) of BELIEF * (how often it stands in it / LEN)");
        BeliefForge forge = searched(10, "1 1 1 2 3 4", "1 5 6 7", "1 2 3 4 5", "1 1 1 1 6");
        int[] order = {3, 0, 1, 2};
        double[] shares = {4.0 / 5, 3.0 / 6, 1.0 / 4, 1.0 / 5};
        for (int k = 0; k < 4; k++) {
            Check.same("found(" + k + ")", order[k], forge.found(k));
        }
        double sum = sum(forge, shares, 0, 1, 2, 3);
        Check.same("whether rising numbers would tell", 1, sum != sum(forge, shares, 1, 2, 3, 0) ? 1 : 0);
        Check.same("whether the other way round would tell", 1, sum != sum(forge, shares, 3, 2, 1, 0) ? 1 : 0);
        forge.model(1);
        due(forge, 0, 0, 1, sum);
    }

    private static double sum(BeliefForge forge, double[] shares, int... order) {
        double sum = 0.0;
        for (int k : order) {
            sum = sum + forge.score(k) * shares[k];
        }
        return sum;
    }

    private static void theNGreatest() {
        Check.sentence("the n WORDS for which that is greatest");
        BeliefForge forge = searched(2, "1 2 3 3", "3 1 1 2 2 2 4", "5");
        // document 1 has the BELIEF p, document 0 the BELIEF q
        double p = (2 + 2.0 * (3.0 / 12)) / (7 + 2.0);
        double q = (1 + 2.0 * (3.0 / 12)) / (4 + 2.0);
        Check.same("score(0)", p, forge.score(0));
        Check.same("score(1)", q, forge.score(1));
        Check.same("model(4)", 5, forge.model(4));
        due(forge, 0, 9, 4, 1.0);
        due(forge, 1, 0, 2, p * (3.0 / 7) + q * (1.0 / 4));
        due(forge, 2, 0, 3, p * (1.0 / 7) + q * (2.0 / 4));
        due(forge, 3, 0, 1, p * (2.0 / 7) + q * (1.0 / 4));
        due(forge, 4, 0, 4, p * (1.0 / 7) + q * (0.0 / 4));
        Check.same("model(2)", 3, forge.model(2));
        due(forge, 0, 9, 2, 1.0);
        due(forge, 1, 0, 2, p * (3.0 / 7) + q * (1.0 / 4));
        due(forge, 2, 0, 3, p * (1.0 / 7) + q * (2.0 / 4));
        Check.index("a third TERM", () -> forge.told(3, 0));
    }

    private static void ofSeveralTheLeast() {
        Check.sentence("the n WORDS for which that is greatest (of several the least)");
        BeliefForge forge = searched(1, "15 9 0 4 4 7 9");
        double p = forge.score(0);
        Check.same("model(1)", 1, forge.model(1));
        due(forge, 0, 0, 4, p * (2.0 / 7));
        Check.same("model(3)", 4, forge.model(3));
        due(forge, 1, 0, 4, p * (2.0 / 7));
        due(forge, 2, 0, 9, p * (2.0 / 7));
        due(forge, 3, 0, 0, p * (1.0 / 7));
        Check.same("model(4)", 5, forge.model(4));
        due(forge, 4, 0, 7, p * (1.0 / 7));
        allTheSame();
    }

    private static void allTheSame() {
        BeliefForge forge = searched(1, "15 14 13 12 11 10 9 8 7 6 5 4 3 2 1 0");
        for (int n = 2; n <= 4; n++) {
            Check.same("model(" + n + ") of 16 of the same", n + 1, forge.model(n));
            for (int t = 1; t <= n; t++) {
                due(forge, t, 0, t - 1, forge.score(0) * (1.0 / 16));
            }
        }
    }

    private static void aboveZero() {
        Check.sentence("above 0.0, become a QUERY");
        // With the least mu a DOCUMENT without the WORD has the BELIEF 0.0, or the least one: mu * 1/2 and mu * 3/4
        BeliefForge zero = Check.forge("1", "2");
        zero.smooth(1, Double.MIN_VALUE);
        Check.query(zero, 0, 2, 1);
        Check.same("search(10)", 2, zero.search(10));
        Check.same("score(1)", 0.0, zero.score(1));
        Check.same("model(4) without the word of BELIEF 0.0", 1, zero.model(4));
        due(zero, 0, 0, 2, 1.0);
        BeliefForge least = Check.forge("1", "2 2 2");
        least.smooth(1, Double.MIN_VALUE);
        Check.query(least, 0, 2, 1);
        Check.same("search(10)", 2, least.search(10));
        Check.same("score(1)", Double.MIN_VALUE, least.score(1));
        Check.same("model(4) with the word of the least BELIEF", 3, least.model(4));
        due(least, 0, 9, 2, 1.0);
        due(least, 1, 0, 2, 1.0);
        due(least, 2, 0, 1, Double.MIN_VALUE);
        fewerThanN();
    }

    private static void fewerThanN() {
        for (int n = 2; n <= 4; n++) {
            BeliefForge forge = searched(1, "8 3 8");
            Check.same("model(" + n + ") of two words", 3, forge.model(n));
            due(forge, 0, 9, 2, 1.0);
            due(forge, 1, 0, 8, forge.score(0) * (2.0 / 3));
            due(forge, 2, 0, 3, forge.score(0) * (1.0 / 3));
        }
    }

    private static void theTermAlone() {
        Check.sentence("(if there is more than one; else the TERM alone, with that as its w");
        BeliefForge forge = Check.forge("15 15", "3");
        Check.query(forge, 0, 15, 1);
        forge.search(1);
        double p = (2 + 2.0 * (2.0 / 3)) / (2 + 2.0);
        for (int n = 1; n <= 4; n++) {
            Check.same("model(" + n + ") of a text of one WORD", 1, forge.model(n));
            due(forge, 0, 0, 15, p * (2.0 / 2));
            Check.same("wanted", 0, forge.wanted());
            Check.same("hits(0, 0)", 2, forge.hits(0, 0));
        }
        BeliefForge several = searched(1, "1 1 2 3");
        Check.same("model(1) of a text of three", 1, several.model(1));
        due(several, 0, 0, 1, several.score(0) * (2.0 / 4));
    }

    /** The BELIEF in the NOT is 0, and so are all sums. */
    private static void anEmptyQuery() {
        Check.sentence("or, if there is none, an empty QUERY)");
        BeliefForge forge = Check.forge("1");
        forge.smooth(1, 1.0);
        for (int n = 1; n <= 4; n++) {
            Check.query(forge, 10, 0, 1, 0, 1, 1);
            Check.same("search(1)", 1, forge.search(1));
            Check.same("score(0)", 0.0, forge.score(0));
            Check.same("model(" + n + ")", 0, forge.model(n));
            Check.same("tokens", 0, forge.count(2));
            Check.same("wanted", 1, forge.wanted());
            Check.index("told(0, 0)", () -> forge.told(0, 0));
            Check.state("belief(0)", () -> forge.belief(0));
            Check.same("nothing of the old query is left", 1, forge.token(1, 1, 1.0));
        }
    }

    private static void theWOfThePoint() {
        Check.sentence("The w of the POINT is 1.");
        for (int n = 2; n <= 4; n++) {
            BeliefForge forge = searched(2, "1 2 3 4 5", "5 5 6");
            Check.same("model(" + n + ")", n + 1, forge.model(n));
            due(forge, 0, 9, n, 1.0);
        }
    }

    private static void theFirstAndTheLastWord() {
        Check.sentence("for each WORD (of the DOCUMENTS as they are now)");
        BeliefForge forge = searched(1, "15 0 15");
        Check.same("model(4)", 3, forge.model(4));
        due(forge, 1, 0, 15, forge.score(0) * (2.0 / 3));
        due(forge, 2, 0, 0, forge.score(0) * (1.0 / 3));
    }
}
