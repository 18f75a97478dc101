/** Promise 15: count. */
final class Promise15CountTest {
    public static void main(String[] args) {
        everyCount();
        fullOnes();
        tokens();
        countsOfTheLatestSearch();
        lengthsOfDocuments();
        timesOfWords();
        forOthers();
        Check.end();
    }

    private static void everyCount() {
        Check.sentence("What 0: DOCUMENTS, 1: ALL, 2: TOKENS, 3: DOCUMENTS FOUND, 4: LEFT OUT in the latest SEARCH");
        BeliefForge forge = Check.forge("0 0 15", "", "0 7|7 7", "15");
        Check.query(forge, 11, 0, 1, 0, 15, 1, 0, 1, 1);
        forge.search(1);
        forge.clear();
        forge.token(5, 2, 1.0);
        forge.token(0, 1, 1.0);
        int[] due = {4, 8, 2, 1, 1};
        for (int what = 0; what < due.length; what++) {
            Check.same("count(" + what + ")", due[what], forge.count(what));
        }
    }

    private static void fullOnes() {
        Check.sentence("What 0: DOCUMENTS, 1: ALL, 2: TOKENS, 3: DOCUMENTS FOUND, 4: LEFT OUT in the latest SEARCH");
        BeliefForge forge = new BeliefForge();
        for (int d = 0; d < 12; d++) {
            Check.add(forge, "15 " + "0 ".repeat(23));
        }
        Check.query(forge, 0, 1, 1);
        forge.search(10);
        Check.same("documents", 12, forge.count(0));
        Check.same("all", 288, forge.count(1));
        Check.same("found", 10, forge.count(3));
        Check.same("left out", 0, forge.count(4));
        Check.same("length of the last", 24, forge.count(21));
        Check.same("times of word 0", 276, forge.count(30));
        Check.same("times of word 15", 12, forge.count(45));
        Check.query(forge, 11, 0, 1, 0, 1, 1, 0, 1, 1);
        forge.search(10);
        Check.same("found, of all left out", 0, forge.count(3));
        Check.same("left out, of all", 12, forge.count(4));
    }

    private static void tokens() {
        Check.sentence("2: TOKENS");
        BeliefForge forge = new BeliefForge();
        for (int i = 1; i <= 24; i++) {
            Check.same("tokens before token " + i, i - 1, forge.count(2));
            forge.token(10, 0, 1.0);
        }
        Check.same("tokens of a full query", 24, forge.count(2));
        forge.clear();
        Check.same("tokens after clear", 0, forge.count(2));
    }

    private static void countsOfTheLatestSearch() {
        Check.sentence("3: DOCUMENTS FOUND, 4: LEFT OUT in the latest SEARCH");
        BeliefForge forge = Check.forge("1", "2", "1 2", "3");
        Check.query(forge, 11, 0, 1, 0, 1, 1, 0, 2, 1);
        Check.same("found before a search", 0, forge.count(3));
        Check.same("left out before a search", 0, forge.count(4));
        Check.missing("belief(1)", () -> forge.belief(1));
        Check.same("left out, but in no search", 0, forge.count(4));
        forge.search(1);
        Check.same("found", 1, forge.count(3));
        Check.same("left out", 2, forge.count(4));
        forge.clear();
        Check.add(forge, "3");
        Check.same("found then", 1, forge.count(3));
        Check.same("left out then", 2, forge.count(4));
        Check.query(forge, 0, 1, 1);
        forge.search(10);
        Check.same("found by the next", 5, forge.count(3));
        Check.same("left out by the next", 0, forge.count(4));
    }

    private static void lengthsOfDocuments() {
        Check.sentence("10 + d: LEN of DOCUMENT d");
        BeliefForge forge = Check.forge("0 0 15", "", "0 7|7 7", "15");
        int[] lengths = {3, 0, 4, 1, 0, 0, 0, 0, 0, 0, 0, 0};
        for (int d = 0; d < 12; d++) {
            Check.same("length of document " + d + " (0 without)", lengths[d], forge.count(10 + d));
        }
        BeliefForge twelve = new BeliefForge();
        for (int d = 0; d < 12; d++) {
            Check.add(twelve, "1 ".repeat(d + 1));
        }
        for (int d = 0; d < 12; d++) {
            Check.same("length of document " + d + " of twelve", d + 1, twelve.count(10 + d));
        }
    }

    private static void timesOfWords() {
        Check.sentence("30 + v: how often WORD v stands in all (0 without)");
        BeliefForge forge = Check.forge("0 0 15", "", "0 7|7 7", "15");
        int[] times = {3, 0, 0, 0, 0, 0, 0, 3, 0, 0, 0, 0, 0, 0, 0, 2};
        for (int v = 0; v < 16; v++) {
            Check.same("times of word " + v, times[v], forge.count(30 + v));
        }
        forge.word(14);
        Check.same("times of word 14", 1, forge.count(44));
    }

    private static void forOthers() {
        Check.sentence("IllegalArgumentException for others (d 0 to 11, v 0 to 15).");
        BeliefForge none = new BeliefForge();
        BeliefForge full = Check.forge("1", "1", "1", "1", "1", "1", "1", "1", "1", "1", "1", "1");
        int[] edges = {-1, 5, 9, 22, 29, 46};
        for (int what : edges) {
            Check.refused(none, "count(" + what + ")", IllegalArgumentException.class, () -> none.count(what));
            Check.argument("count(" + what + ") of twelve", () -> full.count(what));
        }
        for (int what : new int[] {-30, -10, 6, 7, 8, 23, 28, 47, 1000, Integer.MIN_VALUE, Integer.MIN_VALUE + 9, Integer.MAX_VALUE}) {
            Check.argument("count(" + what + ")", () -> none.count(what));
            Check.argument("count(" + what + ") of twelve", () -> full.count(what));
        }
    }
}
