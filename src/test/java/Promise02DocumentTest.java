/** Promise 2: document. */
final class Promise02DocumentTest {
    public static void main(String[] args) {
        numbersRiseToTwelve();
        wrongTitles();
        titlesAreTheFirstWords();
        theLatestTakesTheWords();
        Check.end();
    }

    private static void numbersRiseToTwelve() {
        BeliefForge forge = new BeliefForge();
        for (int d = 0; d < 12; d++) {
            Check.same("document " + d, d, forge.document(2 * d));
            Check.same("length of the new document " + d, 0, forge.count(10 + d));
        }
        Check.state("a 13th document", () -> forge.document(0));
        Check.argument("a 13th document of a wrong title", () -> forge.document(25));
        Check.same("documents after a 13th", 12, forge.count(0));
    }

    private static void wrongTitles() {
        BeliefForge forge = new BeliefForge();
        for (int title : new int[] {-1, 25, Integer.MIN_VALUE, Integer.MAX_VALUE}) {
            Check.argument("document(" + title + ")", () -> forge.document(title));
        }
        Check.same("documents after wrong titles", 0, forge.count(0));
        Check.same("document(0)", 0, forge.document(0));
        Check.same("document(24)", 1, forge.document(24));
    }

    private static void titlesAreTheFirstWords() {
        BeliefForge forge = Check.forge("1 1 1", "1|1 1", "1 1|1", "1 1 1|");
        forge.document(24);
        forge.word(1);
        forge.word(1);
        Check.query(forge, 1, 1, 1);
        int[] due = {0, 1, 2, 3, 2};
        for (int d = 0; d < due.length; d++) {
            Check.same("hits in title of document " + d, due[d], forge.hits(0, d));
        }
        forge.word(1);
        Check.same("hits in a title that was not yet full", 3, forge.hits(0, 4));
    }

    private static void theLatestTakesTheWords() {
        BeliefForge forge = Check.forge("1 2 3");
        forge.document(0);
        Check.same("first word of the second document", 1, forge.word(4));
        Check.same("length of the first", 3, forge.count(10));
        Check.same("length of the second", 1, forge.count(11));
    }
}
