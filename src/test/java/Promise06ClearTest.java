/** Promise 6: clear. */
final class Promise06ClearTest {
    public static void main(String[] args) {
        howManyTokensItHad();
        theQueryIsEmpty();
        theRestStays();
        Check.end();
    }

    private static void howManyTokensItHad() {
        Check.sentence("The QUERY is empty: how many TOKENS it had.");
        BeliefForge forge = new BeliefForge();
        Check.same("clear of an empty query", 0, forge.clear());
        forge.token(5, 2, 1.0);
        forge.token(3, 2, 2.0);
        forge.token(0, 1, 1.0);
        Check.same("clear of a part of a query", 3, forge.clear());
        Check.same("clear again", 0, forge.clear());
        forge.token(1, 1, 1.0);
        Check.same("clear of a whole query", 1, forge.clear());
        for (int i = 0; i < 24; i++) {
            forge.token(7, 4, 1.0);
        }
        Check.same("clear of a full query", 24, forge.clear());
        Check.same("clear of a query that was full", 0, forge.clear());
    }

    private static void theQueryIsEmpty() {
        Check.sentence("The QUERY is empty");
        double[][] queries = {{}, {5, 2, 1}, {2, 3, 3, 0, 1, 1}, {0, 1, 1}, {11, 0, 1, 0, 1, 1, 0, 2, 1}};
        for (double[] query : queries) {
            BeliefForge forge = Check.forge("1 2");
            Check.query(forge, query);
            forge.clear();
            Check.same("tokens", 0, forge.count(2));
            Check.same("wanted", 1, forge.wanted());
            Check.index("told(0, 0)", () -> forge.told(0, 0));
            Check.index("hits(0, 0)", () -> forge.hits(0, 0));
            Check.state("belief(0)", () -> forge.belief(0));
            Check.state("search(1)", () -> forge.search(1));
            Check.same("a new query", 1, forge.token(1, 1, 1.0));
            Check.same("its belief", (0 + 2.0 * (0.5 / 2)) / (2 + 2.0), forge.belief(0));
        }
    }

    private static void theRestStays() {
        Check.sentence("The QUERY is empty");
        BeliefForge forge = Check.forge("1 2", "1");
        forge.smooth(1, 0.5);
        Check.query(forge, 11, 0, 1, 0, 2, 1, 0, 1, 1);
        forge.search(2);
        double score = forge.score(0);
        forge.clear();
        Check.same("documents", 2, forge.count(0));
        Check.same("all", 3, forge.count(1));
        Check.same("found", 1, forge.count(3));
        Check.same("left out", 1, forge.count(4));
        Check.same("found(0)", 0, forge.found(0));
        Check.same("score(0)", score, forge.score(0));
        Check.same("smoothing", 1, forge.smooth(0, 1.0));
    }
}
