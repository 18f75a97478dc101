/** Promise 3: word. */
final class Promise03WordTest {
    private static final int[] WRONG_WORDS = {-1, 16, -15, 24, Integer.MIN_VALUE, Integer.MAX_VALUE};

    public static void main(String[] args) {
        wordsComeToTheEnd();
        howManyItHas();
        theLeastAndTheGreatestWord();
        anotherWord();
        ifThereIsNoDocument();
        ifItHasTwentyFour();
        Check.end();
    }

    private static void wordsComeToTheEnd() {
        Check.sentence("A WORD comes to the end of the latest DOCUMENT");
        BeliefForge forge = Check.forge("9");
        forge.document(0);
        forge.word(0);
        forge.word(15);
        forge.word(7);
        Check.same("length of the first document", 1, forge.count(10));
        Check.query(forge, 2, 1, 2, 0, 0, 1, 0, 15, 1);
        Check.same("0 right before 15", 1, forge.hits(0, 1));
        Check.query(forge, 2, 1, 2, 0, 15, 1, 0, 7, 1);
        Check.same("15 right before 7", 1, forge.hits(0, 1));
        Check.query(forge, 2, 24, 2, 0, 7, 1, 0, 0, 1);
        Check.same("7 before 0", 0, forge.hits(0, 1));
    }

    private static void howManyItHas() {
        Check.sentence("how many it has");
        BeliefForge forge = Check.forge("1 1 1");
        forge.document(0);
        for (int i = 1; i <= 24; i++) {
            Check.same("word " + i, i, forge.word(3));
            Check.same("length", i, forge.count(11));
            Check.same("all", 3 + i, forge.count(1));
        }
    }

    private static void theLeastAndTheGreatestWord() {
        Check.sentence("rows of at most 24 WORDS (0 to 15)");
        BeliefForge forge = new BeliefForge();
        forge.document(0);
        for (int w = 0; w <= 15; w++) {
            Check.same("word(" + w + ")", w + 1, forge.word(w));
            Check.same("how often it stands", 1, forge.count(30 + w));
        }
    }

    private static void anotherWord() {
        Check.sentence("IllegalArgumentException for another WORD");
        BeliefForge forge = Check.forge("1|2");
        Check.query(forge, 0, 1, 1);
        for (int w : WRONG_WORDS) {
            Check.argument("word(" + w + ")", () -> forge.word(w));
        }
        Check.refused(forge, "word(-1)", IllegalArgumentException.class, () -> forge.word(-1));
        Check.refused(forge, "word(16)", IllegalArgumentException.class, () -> forge.word(16));
        Check.same("the next word", 3, forge.word(1));
    }

    private static void ifThereIsNoDocument() {
        Check.sentence("IllegalStateException if there is no DOCUMENT");
        BeliefForge forge = new BeliefForge();
        for (int w = 0; w <= 15; w++) {
            int word = w;
            Check.state("word(" + w + ") without document", () -> forge.word(word));
        }
        Check.refused(forge, "word(0) without document", IllegalStateException.class, () -> forge.word(0));
        for (int w : WRONG_WORDS) {
            Check.argument("word(" + w + ") without document", () -> forge.word(w));
        }
        forge.document(0);
        Check.same("the first word", 1, forge.word(0));
    }

    private static void ifItHasTwentyFour() {
        Check.sentence("IllegalStateException if there is no DOCUMENT, or it has 24.");
        BeliefForge forge = new BeliefForge();
        forge.document(0);
        for (int i = 1; i <= 23; i++) {
            forge.word(3);
        }
        Check.same("word 24", 24, forge.word(4));
        Check.query(forge, 0, 4, 1);
        Check.refused(forge, "word 25", IllegalStateException.class, () -> forge.word(3));
        Check.argument("word 25, a wrong one", () -> forge.word(16));
        Check.same("the last word stays", 1, forge.hits(0, 0));
        forge.document(0);
        Check.same("the first word of the next document", 1, forge.word(3));
    }
}
