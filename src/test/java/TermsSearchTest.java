/** The document's terms: SEARCH, and which DOCUMENTS are FOUND. */
final class TermsSearchTest {
    public static void main(String[] args) {
        allDocumentsWithWords();
        theFirstK();
        thatAreNotLeftOut();
        byFallingBeliefs();
        thenRisingNumbers();
        whatWasFoundBeforeIsForgotten();
        Check.end();
    }

    private static void due(BeliefForge forge, int... documents) {
        Check.same("found", documents.length, forge.count(3));
        for (int k = 0; k < documents.length; k++) {
            Check.same("found(" + k + ")", documents[k], forge.found(k));
            Check.same("score(" + k + ")", forge.belief(documents[k]), forge.score(k));
        }
        Check.index("found(" + documents.length + ")", () -> forge.found(documents.length));
    }

    private static void allDocumentsWithWords() {
        Check.sentence("A SEARCH looks at all DOCUMENTS with WORDS");
        BeliefForge forge = new BeliefForge();
        Check.query(forge, 0, 1, 1);
        Check.same("search without documents", 0, forge.search(10));
        due(forge);
        Check.add(forge, "");
        Check.same("search without words", 0, forge.search(10));
        due(forge);
        Check.add(forge, "2");
        Check.add(forge, "");
        forge.document(24);
        Check.same("search", 1, forge.search(10));
        due(forge, 1);
        Check.query(forge, 11, 0, 1, 0, 1, 1, 0, 1, 1);
        Check.same("search that leaves out", 0, forge.search(10));
        Check.same("left out, of those with words", 1, forge.count(4));
        theFirstAndTheLast();
    }

    private static void theFirstAndTheLast() {
        BeliefForge forge = Check.forge("1", "", "", "", "", "", "", "", "", "", "", "1 2");
        Check.query(forge, 0, 1, 1);
        Check.same("search of the first and the last of twelve", 2, forge.search(10));
        due(forge, 0, 11);
    }

    private static void theFirstK() {
        Check.sentence("the first k that are not LEFT OUT");
        BeliefForge forge = new BeliefForge();
        for (int d = 0; d < 12; d++) {
            Check.add(forge, "1" + " 2".repeat(12 - d));
        }
        Check.query(forge, 0, 1, 1);
        int[] order = {11, 10, 9, 8, 7, 6, 5, 4, 3, 2};
        for (int k = 1; k <= 10; k++) {
            Check.same("search(" + k + ")", k, forge.search(k));
            due(forge, java.util.Arrays.copyOf(order, k));
        }
    }

    private static void thatAreNotLeftOut() {
        Check.sentence("the first k that are not LEFT OUT");
        BeliefForge forge = Check.forge("1 2 2", "3", "2 2 1 1", "2 2 2", "1 2");
        Check.query(forge, 11, 0, 1, 0, 1, 1, 0, 2, 1);
        Check.same("search(10)", 3, forge.search(10));
        Check.same("left out", 2, forge.count(4));
        due(forge, 0, 4, 2);
        // DOCUMENT 3, of the greatest BELIEF, takes no place
        Check.same("search(2)", 2, forge.search(2));
        Check.same("left out of a search for 2", 2, forge.count(4));
        due(forge, 0, 4);
        Check.same("search(3)", 3, forge.search(3));
        due(forge, 0, 4, 2);
        Check.query(forge, 11, 0, 1, 0, 9, 1, 0, 2, 1);
        Check.same("search that finds nothing", 0, forge.search(10));
        Check.same("left out, all", 5, forge.count(4));
        due(forge);
        Check.query(forge, 0, 1, 1);
        Check.same("search without MUST", 5, forge.search(10));
        Check.same("left out, none", 0, forge.count(4));
    }

    private static void byFallingBeliefs() {
        Check.sentence("by falling BELIEFS, then rising numbers");
        BeliefForge forge = Check.forge("1 2 2 2", "1 1 1 1", "2 2 2 2", "1 1 2 2", "1 1 1 2");
        Check.query(forge, 0, 1, 1);
        forge.search(10);
        due(forge, 1, 4, 3, 0, 2);
        Check.query(forge, 10, 0, 1, 0, 1, 1);
        forge.search(10);
        due(forge, 2, 0, 3, 4, 1);
        theLastBitCounts();
    }

    /** (1 - mu) * 1 + mu / 2 and mu / 2, with a mu that leaves one bit between them. */
    private static void theLastBitCounts() {
        BeliefForge forge = Check.forge("1", "2");
        forge.smooth(1, Math.nextDown(1.0));
        Check.query(forge, 0, 2, 1);
        forge.search(10);
        Check.same("whether both are one bit apart", Math.nextUp(forge.score(1)), forge.score(0));
        due(forge, 1, 0);
    }

    private static void thenRisingNumbers() {
        Check.sentence("by falling BELIEFS, then rising numbers");
        BeliefForge forge = Check.forge("2 2 1", "1 1 2", "2 1 2", "1 1 1", "2 1 1", "2 2 2");
        Check.query(forge, 0, 1, 1);
        forge.search(10);
        due(forge, 3, 1, 4, 0, 2, 5);
        // of two that are the same the one of the lower number is among the first k
        forge.search(2);
        due(forge, 3, 1);
        forge.search(4);
        due(forge, 3, 1, 4, 0);
        Check.query(forge, 0, 9, 1);
        Check.same("search for a word that is nowhere", 6, forge.search(10));
        due(forge, 0, 1, 2, 3, 4, 5);
        twelveOfTheSame();
    }

    private static void twelveOfTheSame() {
        BeliefForge forge = Check.forge("1", "1", "1", "1", "1", "1", "1", "1", "1", "1", "1", "1");
        Check.query(forge, 0, 1, 1);
        forge.search(10);
        due(forge, 0, 1, 2, 3, 4, 5, 6, 7, 8, 9);
        forge.search(1);
        due(forge, 0);
        // all of BELIEF 0
        Check.query(forge, 10, 0, 1, 0, 1, 1);
        Check.same("search for what is believed by 0", 10, forge.search(10));
        due(forge, 0, 1, 2, 3, 4, 5, 6, 7, 8, 9);
    }

    private static void whatWasFoundBeforeIsForgotten() {
        Check.sentence("the first k that are not LEFT OUT, by falling BELIEFS, then rising numbers, are FOUND");
        BeliefForge forge = Check.forge("1 2", "2 2", "3");
        Check.query(forge, 0, 1, 1);
        forge.search(10);
        due(forge, 0, 2, 1);
        forge.search(10);
        due(forge, 0, 2, 1);
        Check.query(forge, 11, 0, 1, 0, 3, 1, 0, 2, 1);
        forge.search(10);
        due(forge, 2);
        Check.same("left out", 2, forge.count(4));
        forge.search(10);
        Check.same("left out by the same search again", 2, forge.count(4));
    }
}
