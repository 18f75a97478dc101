/** Promise 12: score. */
final class Promise12ScoreTest {
    public static void main(String[] args) {
        BeliefForge forge = Check.forge("2 2 1", "1 1", "", "1 2");
        Check.index("score(0) before a search", () -> forge.score(0));
        Check.query(forge, 0, 1, 1);
        forge.search(2);
        double first = (2 + 2.0 * (4.0 / 7)) / (2 + 2.0);
        double second = (1 + 2.0 * (4.0 / 7)) / (2 + 2.0);
        Check.same("score(0)", first, forge.score(0));
        Check.same("score(1)", second, forge.score(1));
        for (int k : new int[] {2, 3, 12, -1, Integer.MIN_VALUE, Integer.MAX_VALUE}) {
            Check.index("score(" + k + ")", () -> forge.score(k));
        }
        Check.query(forge, 0, 2, 1);
        forge.smooth(1, 0.5);
        Check.add(forge, "1 1 1");
        forge.belief(0);
        Check.same("score(0) as it was then", first, forge.score(0));
        Check.same("score(1) as it was then", second, forge.score(1));
        forge.search(1);
        Check.same("score(0) of the next search", (1 - 0.5) * (2.0 / 3) + 0.5 * (3.0 / 10), forge.score(0));
        Check.index("score(1) of the next search", () -> forge.score(1));
        Check.end();
    }
}
