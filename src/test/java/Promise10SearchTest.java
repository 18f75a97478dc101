/** Promise 10: search. */
final class Promise10SearchTest {
    public static void main(String[] args) {
        fallingBeliefsThenRisingNumbers();
        onlySoManyAreFound();
        onlyDocumentsWithWords();
        leftOutOnesAreNotFound();
        wrongOnesChangeNothing();
        Check.end();
    }

    private static void due(BeliefForge forge, int... documents) {
        Check.same("found", documents.length, forge.count(3));
        for (int k = 0; k < documents.length; k++) {
            Check.same("found(" + k + ")", documents[k], forge.found(k));
            Check.same("score(" + k + ")", forge.belief(documents[k]), forge.score(k));
        }
    }

    private static void fallingBeliefsThenRisingNumbers() {
        BeliefForge forge = Check.forge("2 2 1", "1 1 2", "2 1 2", "1 1 1", "2 1 1", "2 2 2");
        Check.query(forge, 0, 1, 1);
        Check.same("search(10)", 6, forge.search(10));
        due(forge, 3, 1, 4, 0, 2, 5);
        Check.query(forge, 0, 9, 1);
        Check.same("search(10) for a word that is nowhere", 6, forge.search(10));
        due(forge, 0, 1, 2, 3, 4, 5);
    }

    private static void onlySoManyAreFound() {
        BeliefForge forge = new BeliefForge();
        for (int d = 0; d < 12; d++) {
            Check.add(forge, "1" + " 2".repeat(12 - d));
        }
        Check.query(forge, 0, 1, 1);
        Check.same("search(1)", 1, forge.search(1));
        due(forge, 11);
        Check.same("search(10)", 10, forge.search(10));
        due(forge, 11, 10, 9, 8, 7, 6, 5, 4, 3, 2);
        Check.same("search(3)", 3, forge.search(3));
        due(forge, 11, 10, 9);
    }

    private static void onlyDocumentsWithWords() {
        BeliefForge forge = new BeliefForge();
        Check.query(forge, 0, 1, 1);
        Check.same("search without documents", 0, forge.search(10));
        Check.add(forge, "");
        Check.same("search without words", 0, forge.search(10));
        Check.add(forge, "2");
        Check.add(forge, "");
        Check.same("search", 1, forge.search(10));
        due(forge, 1);
        Check.query(forge, 11, 0, 1, 0, 1, 1, 0, 1, 1);
        Check.same("search that leaves out", 0, forge.search(10));
        Check.same("left out, of those with words", 1, forge.count(4));
    }

    private static void leftOutOnesAreNotFound() {
        BeliefForge forge = Check.forge("1 2 2", "3", "2 2 1 1", "2 2 2", "1 2");
        Check.query(forge, 11, 0, 1, 0, 1, 1, 0, 2, 1);
        Check.same("search(10)", 3, forge.search(10));
        Check.same("left out", 2, forge.count(4));
        due(forge, 0, 4, 2);
        Check.same("search(2)", 2, forge.search(2));
        Check.same("left out of a search for 2", 2, forge.count(4));
        due(forge, 0, 4);
        Check.query(forge, 11, 0, 1, 0, 9, 1, 0, 2, 1);
        Check.same("search that finds nothing", 0, forge.search(10));
        Check.same("left out, all", 5, forge.count(4));
        Check.query(forge, 0, 1, 1);
        Check.same("search without MUST", 5, forge.search(10));
        Check.same("left out, none", 0, forge.count(4));
    }

    private static void wrongOnesChangeNothing() {
        BeliefForge forge = Check.forge("1 2", "3");
        Check.query(forge, 11, 0, 1, 0, 1, 1, 0, 2, 1);
        forge.search(10);
        for (int k : new int[] {0, -1, 11, Integer.MIN_VALUE, Integer.MAX_VALUE}) {
            Check.argument("search(" + k + ")", () -> forge.search(k));
        }
        forge.clear();
        Check.state("search of an empty query", () -> forge.search(1));
        Check.argument("a wrong search of an empty query", () -> forge.search(0));
        forge.token(10, 0, 1.0);
        Check.state("search of a part of a query", () -> forge.search(1));
        Check.same("still found", 1, forge.count(3));
        Check.same("still left out", 1, forge.count(4));
    }
}
