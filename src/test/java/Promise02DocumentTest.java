/** Promise 2: document. */
final class Promise02DocumentTest {
    private static final int[] WRONG_TITLES = {-1, 25, -24, 100, Integer.MIN_VALUE, Integer.MAX_VALUE};

    public static void main(String[] args) {
        itsNumber();
        withoutWords();
        theLeastAndTheGreatestTitle();
        titlesAreTheFirstWords();
        anotherNumber();
        ifThereAreTwelve();
        theLatestTakesTheWords();
        Check.end();
    }

    private static void itsNumber() {
        Check.sentence("A new DOCUMENT without WORDS, of whose WORDS the first so many (0 to 24) are its TITLE: its number.");
        BeliefForge forge = new BeliefForge();
        for (int d = 0; d < 12; d++) {
            Check.same("document " + d, d, forge.document(2 * d));
            Check.same("documents", d + 1, forge.count(0));
        }
    }

    private static void withoutWords() {
        Check.sentence("A new DOCUMENT without WORDS");
        BeliefForge forge = Check.forge("1 2 3");
        Check.query(forge, 0, 1, 1);
        Check.same("the second document", 1, forge.document(24));
        Check.same("its length", 0, forge.count(11));
        Check.same("all", 3, forge.count(1));
        Check.same("hits in it", 0, forge.hits(0, 1));
        Check.index("belief in it", () -> forge.belief(1));
        Check.same("search(10)", 1, forge.search(10));
    }

    private static void theLeastAndTheGreatestTitle() {
        Check.sentence("of whose WORDS the first so many (0 to 24) are its TITLE");
        BeliefForge forge = new BeliefForge();
        Check.same("document(0)", 0, forge.document(0));
        Check.same("document(24)", 1, forge.document(24));
        Check.same("document(1)", 2, forge.document(1));
        Check.same("document(23)", 3, forge.document(23));
    }

    private static void titlesAreTheFirstWords() {
        Check.sentence("of whose WORDS the first so many (0 to 24) are its TITLE");
        for (int title = 0; title <= 24; title++) {
            BeliefForge forge = new BeliefForge();
            Check.query(forge, 1, 1, 1);
            forge.document(title);
            for (int length = 1; length <= 24; length++) {
                forge.word(1);
                String what = "hits in a title of " + title + " when there are " + length + " words";
                Check.same(what, Math.min(title, length), forge.hits(0, 0));
            }
        }
    }

    private static void anotherNumber() {
        Check.sentence("IllegalArgumentException for another number");
        BeliefForge none = new BeliefForge();
        BeliefForge one = Check.forge("1 2|3");
        Check.query(one, 1, 1, 1);
        one.search(1);
        for (int title : WRONG_TITLES) {
            String call = "document(" + title + ")";
            Check.argument(call, () -> none.document(title));
            Check.argument(call, () -> one.document(title));
        }
        Check.refused(none, "document(-1)", IllegalArgumentException.class, () -> none.document(-1));
        Check.refused(one, "document(25)", IllegalArgumentException.class, () -> one.document(25));
        Check.same("the next document of none", 0, none.document(0));
        Check.same("a word after wrong titles", 4, one.word(1));
        Check.same("the next document of one", 1, one.document(0));
    }

    private static void ifThereAreTwelve() {
        Check.sentence("IllegalStateException if there are 12.");
        BeliefForge forge = new BeliefForge();
        for (int d = 0; d < 11; d++) {
            forge.document(0);
        }
        Check.same("the 12th document", 11, forge.document(1));
        forge.word(5);
        Check.query(forge, 1, 5, 1);
        Check.refused(forge, "a 13th document", IllegalStateException.class, () -> forge.document(0));
        Check.state("a 13th document again", () -> forge.document(24));
        Check.argument("a 13th document of a wrong title", () -> forge.document(25));
        Check.same("the 12th still takes words", 2, forge.word(5));
        Check.same("its title is as it was", 1, forge.hits(0, 11));
    }

    private static void theLatestTakesTheWords() {
        Check.sentence("A new DOCUMENT without WORDS");
        BeliefForge forge = Check.forge("1 2 3");
        forge.document(0);
        Check.same("first word of the second document", 1, forge.word(4));
        Check.same("length of the first", 3, forge.count(10));
        Check.same("length of the second", 1, forge.count(11));
    }
}
