/** Promise 15: count. */
final class Promise15CountTest {
    public static void main(String[] args) {
        everyCount();
        countsOfTheLatestSearch();
        wrongOnes();
        Check.end();
    }

    private static void everyCount() {
        BeliefForge forge = Check.forge("0 0 15", "", "0 7|7 7", "15");
        forge.token(5, 2, 1.0);
        forge.token(0, 1, 1.0);
        Check.same("documents", 4, forge.count(0));
        Check.same("all", 8, forge.count(1));
        Check.same("tokens", 2, forge.count(2));
        int[] lengths = {3, 0, 4, 1, 0, 0, 0, 0, 0, 0, 0, 0};
        for (int d = 0; d < 12; d++) {
            Check.same("length of document " + d, lengths[d], forge.count(10 + d));
        }
        int[] times = {3, 0, 0, 0, 0, 0, 0, 3, 0, 0, 0, 0, 0, 0, 0, 2};
        for (int v = 0; v < 16; v++) {
            Check.same("times of word " + v, times[v], forge.count(30 + v));
        }
        fullOnes();
    }

    private static void fullOnes() {
        BeliefForge forge = new BeliefForge();
        for (int d = 0; d < 12; d++) {
            Check.add(forge, "15 " + "0 ".repeat(23));
        }
        Check.same("documents", 12, forge.count(0));
        Check.same("all", 288, forge.count(1));
        Check.same("length of the last", 24, forge.count(21));
        Check.same("times of word 0", 276, forge.count(30));
        Check.same("times of word 15", 12, forge.count(45));
    }

    private static void countsOfTheLatestSearch() {
        BeliefForge forge = Check.forge("1", "2", "1 2", "3");
        Check.query(forge, 11, 0, 1, 0, 1, 1, 0, 2, 1);
        Check.same("found before a search", 0, forge.count(3));
        forge.search(1);
        Check.same("found", 1, forge.count(3));
        Check.same("left out", 2, forge.count(4));
        forge.clear();
        Check.add(forge, "3");
        Check.same("found then", 1, forge.count(3));
        Check.same("left out then", 2, forge.count(4));
        Check.query(forge, 0, 1, 1);
        forge.search(10);
        Check.same("found by the next", 5, forge.count(3));
        Check.same("left out by the next", 0, forge.count(4));
    }

    private static void wrongOnes() {
        BeliefForge forge = Check.forge("1 2");
        int[] wrong = {-1, 5, 9, 22, 29, 46, 1000, Integer.MIN_VALUE, Integer.MAX_VALUE};
        for (int what : wrong) {
            Check.argument("count(" + what + ")", () -> forge.count(what));
        }
    }
}
