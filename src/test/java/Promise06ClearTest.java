/** Promise 6: clear. */
final class Promise06ClearTest {
    public static void main(String[] args) {
        theQueryIsEmpty();
        theRestStays();
        Check.end();
    }

    private static void theQueryIsEmpty() {
        BeliefForge forge = Check.forge("1 2");
        Check.same("clear of an empty query", 0, forge.clear());
        forge.token(5, 2, 1.0);
        forge.token(3, 2, 2.0);
        forge.token(0, 1, 1.0);
        Check.same("clear of three tokens", 3, forge.clear());
        Check.same("clear again", 0, forge.clear());
        Check.same("tokens", 0, forge.count(2));
        Check.same("wanted", 1, forge.wanted());
        Check.index("told(0, 0)", () -> forge.told(0, 0));
        Check.state("belief(0)", () -> forge.belief(0));
        Check.same("a new query", 1, forge.token(1, 1, 1.0));
        Check.same("clear of a whole query", 1, forge.clear());
        Check.state("search(1)", () -> forge.search(1));
    }

    private static void theRestStays() {
        BeliefForge forge = Check.forge("1 2", "1");
        forge.smooth(1, 0.5);
        Check.query(forge, 11, 0, 1, 0, 2, 1, 0, 1, 1);
        forge.search(2);
        double score = forge.score(0);
        forge.clear();
        Check.same("documents", 2, forge.count(0));
        Check.same("found", 1, forge.count(3));
        Check.same("left out", 1, forge.count(4));
        Check.same("found(0)", 0, forge.found(0));
        Check.same("score(0)", score, forge.score(0));
        Check.same("smoothing", 1, forge.smooth(0, 1.0));
    }
}
