/** Promise 13: model. */
final class Promise13ModelTest {
    public static void main(String[] args) {
        theGreatestWords();
        theLeastOfSeveral();
        oneWordAlone();
        noWordAtAll();
        sumsGoByTheOrderOfTheFound();
        documentsOfNowBeliefsOfThen();
        theModelIsAQuery();
        wrongOnesChangeNothing();
        Check.end();
    }

    private static void due(BeliefForge forge, int t, int kind, int a, double w) {
        Check.same("kind of token " + t, (double) kind, forge.told(t, 0));
        Check.same("a of token " + t, (double) a, forge.told(t, 1));
        Check.same("w of token " + t, w, forge.told(t, 2));
    }

    private static void theGreatestWords() {
        BeliefForge forge = Check.forge("1 2 3 3", "3 1 1 2 2 2 4", "5");
        Check.query(forge, 0, 1, 1);
        forge.search(2);
        // document 1 has the BELIEF p, document 0 the BELIEF q
        double p = (2 + 2.0 * (3.0 / 12)) / (7 + 2.0);
        double q = (1 + 2.0 * (3.0 / 12)) / (4 + 2.0);
        Check.same("score(0)", p, forge.score(0));
        Check.same("score(1)", q, forge.score(1));
        Check.same("model(4)", 5, forge.model(4));
        due(forge, 0, 9, 4, 1.0);
        due(forge, 1, 0, 2, p * (3.0 / 7) + q * (1.0 / 4));
        due(forge, 2, 0, 3, p * (1.0 / 7) + q * (2.0 / 4));
        due(forge, 3, 0, 1, p * (2.0 / 7) + q * (1.0 / 4));
        due(forge, 4, 0, 4, p * (1.0 / 7) + q * (0.0 / 4));
        Check.same("model(2)", 3, forge.model(2));
        due(forge, 0, 9, 2, 1.0);
        due(forge, 1, 0, 2, p * (3.0 / 7) + q * (1.0 / 4));
        due(forge, 2, 0, 3, p * (1.0 / 7) + q * (2.0 / 4));
        Check.index("a third TERM", () -> forge.told(3, 0));
    }

    private static void theLeastOfSeveral() {
        BeliefForge forge = Check.forge("15 9 0 4 4 7 9");
        Check.query(forge, 0, 1, 1);
        forge.search(1);
        Check.same("model(3)", 4, forge.model(3));
        double p = forge.score(0);
        due(forge, 1, 0, 4, p * (2.0 / 7));
        due(forge, 2, 0, 9, p * (2.0 / 7));
        due(forge, 3, 0, 0, p * (1.0 / 7));
        Check.same("model(4)", 5, forge.model(4));
        due(forge, 4, 0, 7, p * (1.0 / 7));
    }

    private static void oneWordAlone() {
        BeliefForge forge = Check.forge("15 15", "3");
        Check.query(forge, 0, 15, 1);
        forge.search(1);
        double p = (2 + 2.0 * (2.0 / 3)) / (2 + 2.0);
        Check.same("model(1)", 1, forge.model(1));
        due(forge, 0, 0, 15, p * (2.0 / 2));
        Check.same("model(4) of a text of one WORD", 1, forge.model(4));
        due(forge, 0, 0, 15, p * (2.0 / 2));
        Check.same("wanted", 0, forge.wanted());
    }

    /** The BELIEF in the NOT is 0, and so are all sums. */
    private static void noWordAtAll() {
        BeliefForge forge = Check.forge("1");
        forge.smooth(1, 1.0);
        Check.query(forge, 10, 0, 1, 0, 1, 1);
        Check.same("search(1)", 1, forge.search(1));
        Check.same("score(0)", 0.0, forge.score(0));
        Check.same("model(4)", 0, forge.model(4));
        Check.same("tokens", 0, forge.count(2));
        Check.same("wanted", 1, forge.wanted());
        Check.index("told(0, 0)", () -> forge.told(0, 0));
        Check.same("nothing of the old query is left", 1, forge.token(1, 1, 1.0));
    }

    /** A sum by rising numbers, or from the last one FOUND to the first, has other last bits. */
    private static void sumsGoByTheOrderOfTheFound() {
        BeliefForge forge = Check.forge("1 1 1 2 3 4", "1 5 6 7", "1 2 3 4 5", "1 1 1 1 6");
        Check.query(forge, 0, 1, 1);
        forge.search(10);
        int[] order = {3, 0, 1, 2};
        double[] shares = {4.0 / 5, 3.0 / 6, 1.0 / 4, 1.0 / 5};
        for (int k = 0; k < 4; k++) {
            Check.same("found(" + k + ")", order[k], forge.found(k));
        }
        double sum = sum(forge, shares, 0, 1, 2, 3);
        Check.same("whether rising numbers would tell", 1, sum != sum(forge, shares, 1, 2, 3, 0) ? 1 : 0);
        Check.same("whether the other way round would tell", 1, sum != sum(forge, shares, 3, 2, 1, 0) ? 1 : 0);
        forge.model(1);
        due(forge, 0, 0, 1, sum);
    }

    private static double sum(BeliefForge forge, double[] shares, int... order) {
        double sum = 0.0;
        for (int k : order) {
            sum = sum + forge.score(k) * shares[k];
        }
        return sum;
    }

    private static void documentsOfNowBeliefsOfThen() {
        BeliefForge forge = Check.forge("1 2");
        Check.query(forge, 0, 1, 1);
        forge.search(1);
        double p = forge.score(0);
        forge.word(5);
        forge.word(5);
        forge.word(5);
        forge.smooth(1, 0.5);
        Check.same("model(2)", 3, forge.model(2));
        due(forge, 1, 0, 5, p * (3.0 / 5));
        due(forge, 2, 0, 1, p * (1.0 / 5));
        Check.same("score(0) stays", p, forge.score(0));
        Check.same("found stays", 1, forge.count(3));
    }

    private static void theModelIsAQuery() {
        BeliefForge forge = Check.forge("1 1 2", "3 3 4", "5");
        Check.query(forge, 2, 1, 2, 0, 1, 1);
        Check.same("wanted of a part of a window", 1, forge.wanted());
        forge.clear();
        Check.query(forge, 0, 1, 1);
        forge.search(1);
        forge.clear();
        forge.token(2, 1, 2.0);
        Check.same("model(2) in place of a part of a query", 3, forge.model(2));
        Check.same("wanted", 0, forge.wanted());
        Check.same("tokens", 3, forge.count(2));
        Check.state("a token behind it", () -> forge.token(0, 1, 1.0));
        Check.same("hits of its first TERM", 2, forge.hits(1, 0));
        double u = forge.told(1, 2);
        double v = forge.told(2, 2);
        double one = (2 + 2.0 * (2.0 / 7)) / (3 + 2.0);
        double two = (1 + 2.0 * (1.0 / 7)) / (3 + 2.0);
        Check.same("belief(0)", (0.0 + u * one + v * two) / (0.0 + u + v), forge.belief(0));
        Check.same("search(10)", 3, forge.search(10));
        Check.same("clear", 3, forge.clear());
        Check.same("no TERM is wanted", 1, forge.token(10, 1, 1.0));
    }

    private static void wrongOnesChangeNothing() {
        BeliefForge forge = Check.forge("1 2", "3");
        Check.query(forge, 10, 0, 1, 0, 1, 1);
        Check.state("model before a search", () -> forge.model(1));
        Check.argument("a wrong model before a search", () -> forge.model(0));
        forge.search(1);
        for (int n : new int[] {0, -1, 5, Integer.MIN_VALUE, Integer.MAX_VALUE}) {
            Check.argument("model(" + n + ")", () -> forge.model(n));
        }
        Check.same("tokens", 2, forge.count(2));
        Check.query(forge, 11, 0, 1, 0, 9, 1, 0, 1, 1);
        forge.search(1);
        Check.state("model when nothing is found", () -> forge.model(1));
        Check.same("tokens", 3, forge.count(2));
    }
}
