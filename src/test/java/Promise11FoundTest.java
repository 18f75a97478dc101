/** Promise 11: found. */
final class Promise11FoundTest {
    public static void main(String[] args) {
        theKthFound();
        allTen();
        theLatestSearchCounts();
        ifThereIsNone();
        Check.end();
    }

    private static BeliefForge searched() {
        BeliefForge forge = Check.forge("2 2 1", "1 1", "", "1 2");
        Check.query(forge, 0, 1, 1);
        forge.search(2);
        return forge;
    }

    private static void theKthFound() {
        Check.sentence("The DOCUMENT that was FOUND as k-th (0 the first) by the latest SEARCH.");
        BeliefForge forge = searched();
        Check.same("found(0)", 1, forge.found(0));
        Check.same("found(1)", 3, forge.found(1));
    }

    private static void allTen() {
        Check.sentence("The DOCUMENT that was FOUND as k-th (0 the first) by the latest SEARCH.");
        BeliefForge forge = new BeliefForge();
        for (int d = 0; d < 12; d++) {
            Check.add(forge, "1" + " 2".repeat(12 - d));
        }
        Check.query(forge, 0, 1, 1);
        forge.search(10);
        for (int k = 0; k < 10; k++) {
            Check.same("found(" + k + ")", 11 - k, forge.found(k));
        }
        Check.index("found(10) of 10, though there are 12", () -> forge.found(10));
        Check.index("found(11) of 10, though there are 12", () -> forge.found(11));
    }

    private static void theLatestSearchCounts() {
        Check.sentence("by the latest SEARCH");
        BeliefForge forge = searched();
        Check.query(forge, 0, 2, 1);
        Check.same("found(0) till the next search", 1, forge.found(0));
        Check.add(forge, "2 2 2 2 2 2 2");
        Check.same("found(0) with another document", 1, forge.found(0));
        forge.belief(0);
        Check.same("found(0) after a belief", 1, forge.found(0));
        forge.model(2);
        Check.same("found(0) after a model", 1, forge.found(0));
        Check.query(forge, 0, 2, 1);
        forge.search(10);
        Check.same("found(0) of the next search", 4, forge.found(0));
        Check.same("found(3) of the next search", 1, forge.found(3));
    }

    private static void ifThereIsNone() {
        Check.sentence("IndexOutOfBoundsException if there is none.");
        BeliefForge forge = Check.forge("1");
        Check.index("found(0) before a search", () -> forge.found(0));
        BeliefForge two = searched();
        Check.refused(two, "found(2) of 2", IndexOutOfBoundsException.class, () -> two.found(2));
        for (int k : new int[] {2, 3, 10, 12, -1, Integer.MIN_VALUE, Integer.MAX_VALUE}) {
            Check.index("found(" + k + ") of 2", () -> two.found(k));
        }
        two.search(1);
        Check.index("found(1) of 1, after a search for 2", () -> two.found(1));
        Check.query(two, 11, 0, 1, 0, 9, 1, 0, 2, 1);
        two.search(10);
        Check.index("found(0) of a search that finds nothing", () -> two.found(0));
    }
}
