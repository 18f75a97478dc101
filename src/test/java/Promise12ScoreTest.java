/** Promise 12: score. */
final class Promise12ScoreTest {
    private static final double FIRST = (2 + 2.0 * (4.0 / 7)) / (2 + 2.0);
    private static final double SECOND = (1 + 2.0 * (4.0 / 7)) / (2 + 2.0);

    public static void main(String[] args) {
        itsBelief();
        asItWasThen();
        likewise();
        Check.end();
    }

    private static BeliefForge searched() {
        BeliefForge forge = Check.forge("2 2 1", "1 1", "", "1 2");
        Check.query(forge, 0, 1, 1);
        forge.search(2);
        return forge;
    }

    private static void itsBelief() {
        Check.sentence("Its BELIEF, likewise, as it was then.");
        BeliefForge forge = searched();
        Check.same("score(0)", FIRST, forge.score(0));
        Check.same("score(1)", SECOND, forge.score(1));
        forge.search(3);
        Check.same("score(2)", (1 + 2.0 * (4.0 / 7)) / (3 + 2.0), forge.score(2));
    }

    private static void asItWasThen() {
        Check.sentence("as it was then");
        BeliefForge forge = searched();
        Check.query(forge, 0, 2, 1);
        Check.same("score(0) with another query", FIRST, forge.score(0));
        forge.smooth(1, 0.5);
        Check.same("score(0) by another smoothing", FIRST, forge.score(0));
        forge.word(1);
        Check.same("score(1) with another word", SECOND, forge.score(1));
        Check.add(forge, "1 1 1");
        forge.belief(0);
        forge.belief(3);
        Check.same("score(0) with another document", FIRST, forge.score(0));
        Check.same("score(1) with another document", SECOND, forge.score(1));
        forge.model(1);
        Check.same("score(0) after a model", FIRST, forge.score(0));
        Check.query(forge, 0, 2, 1);
        forge.search(1);
        Check.same("score(0) of the next search", (1 - 0.5) * (2.0 / 3) + 0.5 * (3.0 / 11), forge.score(0));
        Check.index("score(1) of the next search", () -> forge.score(1));
    }

    private static void likewise() {
        Check.sentence("IndexOutOfBoundsException if there is none.");
        BeliefForge forge = Check.forge("1");
        Check.index("score(0) before a search", () -> forge.score(0));
        BeliefForge two = searched();
        Check.refused(two, "score(2) of 2", IndexOutOfBoundsException.class, () -> two.score(2));
        for (int k : new int[] {2, 3, 10, 12, -1, Integer.MIN_VALUE, Integer.MAX_VALUE}) {
            Check.index("score(" + k + ") of 2", () -> two.score(k));
        }
        Check.query(two, 11, 0, 1, 0, 9, 1, 0, 2, 1);
        two.search(10);
        Check.index("score(0) of a search that finds nothing", () -> two.score(0));
        theTenthOfTwelve();
    }

    private static void theTenthOfTwelve() {
        BeliefForge forge = new BeliefForge();
        for (int d = 0; d < 12; d++) {
            Check.add(forge, "1");
        }
        Check.query(forge, 0, 1, 1);
        forge.search(10);
        Check.same("score(9)", 1.0, forge.score(9));
        Check.index("score(10) of 10, though there are 12", () -> forge.score(10));
    }
}
