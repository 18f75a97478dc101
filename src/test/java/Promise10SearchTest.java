/** Promise 10: search. What is FOUND, is tested in TermsSearchTest. */
final class Promise10SearchTest {
    private static final int[] WRONG = {0, -1, 11, 12, Integer.MIN_VALUE, Integer.MAX_VALUE};

    public static void main(String[] args) {
        howManyAreFound();
        ifKIsNotOneToTen();
        ifTheQueryIsNotWhole();
        whatIsNamedFirstIsThrown();
        Check.end();
    }

    private static void howManyAreFound() {
        Check.sentence("The SEARCH: how many are FOUND.");
        BeliefForge forge = new BeliefForge();
        Check.query(forge, 0, 1, 1);
        for (int d = 0; d <= 12; d++) {
            Check.same("search(1) of " + d, Math.min(d, 1), forge.search(1));
            Check.same("search(9) of " + d, Math.min(d, 9), forge.search(9));
            Check.same("search(10) of " + d, Math.min(d, 10), forge.search(10));
            Check.same("count(3) of " + d, Math.min(d, 10), forge.count(3));
            if (d < 12) {
                Check.add(forge, "1 2");
            }
        }
        for (int k = 1; k <= 10; k++) {
            Check.same("search(" + k + ") of 12", k, forge.search(k));
        }
    }

    private static BeliefForge searched() {
        BeliefForge forge = Check.forge("1 2", "3", "2 1 1");
        Check.query(forge, 11, 0, 1, 0, 1, 1, 0, 2, 1);
        Check.same("search(10)", 2, forge.search(10));
        return forge;
    }

    private static void ifKIsNotOneToTen() {
        Check.sentence("IllegalArgumentException if k is not 1 to 10");
        for (int k : WRONG) {
            BeliefForge forge = searched();
            Check.refused(forge, "search(" + k + ")", IllegalArgumentException.class, () -> forge.search(k));
            // it would find others, and leave none out
            Check.query(forge, 0, 3, 1);
            Check.refused(forge, "search(" + k + ")", IllegalArgumentException.class, () -> forge.search(k));
        }
    }

    private static void ifTheQueryIsNotWhole() {
        Check.sentence("IllegalStateException if the QUERY is not WHOLE");
        BeliefForge fresh = Check.forge("1");
        Check.refused(fresh, "search(1) of an empty query", IllegalStateException.class, () -> fresh.search(1));
        double[][] parts = {{}, {10, 0, 1}, {11, 0, 1, 0, 1, 1}, {2, 1, 2, 0, 1, 1}, {6, 4, 1, 0, 1, 1, 0, 1, 1, 0, 1, 1}};
        for (double[] part : parts) {
            BeliefForge forge = searched();
            Check.query(forge, part);
            Check.refused(forge, "search(1) of a part of a query", IllegalStateException.class, () -> forge.search(1));
            Check.state("search(10) of a part of a query", () -> forge.search(10));
        }
        fresh.clear();
        for (int i = 0; i < 24; i++) {
            fresh.token(10, 0, 1.0);
        }
        Check.state("search(1) of a full query that is not whole", () -> fresh.search(1));
    }

    private static void whatIsNamedFirstIsThrown() {
        Check.sentence("IllegalArgumentException, IllegalStateException");
        BeliefForge forge = Check.forge("1");
        for (int k : WRONG) {
            Check.argument("search(" + k + ") of an empty query", () -> forge.search(k));
        }
    }
}
