/** Promise 11: found. */
final class Promise11FoundTest {
    public static void main(String[] args) {
        BeliefForge forge = Check.forge("2 2 1", "1 1", "", "1 2");
        Check.index("found(0) before a search", () -> forge.found(0));
        Check.query(forge, 0, 1, 1);
        forge.search(2);
        Check.same("found(0)", 1, forge.found(0));
        Check.same("found(1)", 3, forge.found(1));
        for (int k : new int[] {2, 3, 12, -1, Integer.MIN_VALUE, Integer.MAX_VALUE}) {
            Check.index("found(" + k + ")", () -> forge.found(k));
        }
        theLatestSearchCounts(forge);
        Check.end();
    }

    private static void theLatestSearchCounts(BeliefForge forge) {
        Check.query(forge, 0, 2, 1);
        Check.same("found(0) till the next search", 1, forge.found(0));
        Check.add(forge, "2 2 2 2 2 2 2");
        Check.same("found(0) till the next search", 1, forge.found(0));
        forge.search(10);
        Check.same("found(0) of the next search", 4, forge.found(0));
        Check.same("found(3) of the next search", 1, forge.found(3));
        Check.query(forge, 11, 0, 1, 0, 9, 1, 0, 2, 1);
        forge.search(10);
        Check.index("found(0) of a search that finds nothing", () -> forge.found(0));
    }
}
