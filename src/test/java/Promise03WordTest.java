/** Promise 3: word. */
final class Promise03WordTest {
    public static void main(String[] args) {
        wordsComeToTheEnd();
        twentyFourAreTheMost();
        wrongWords();
        Check.end();
    }

    private static void wordsComeToTheEnd() {
        BeliefForge forge = new BeliefForge();
        forge.document(0);
        Check.same("first word", 1, forge.word(0));
        Check.same("second word", 2, forge.word(15));
        Check.same("third word", 3, forge.word(7));
        Check.query(forge, 2, 1, 2, 0, 0, 1, 0, 15, 1);
        Check.same("0 right before 15", 1, forge.hits(0, 0));
        Check.query(forge, 2, 1, 2, 0, 15, 1, 0, 7, 1);
        Check.same("15 right before 7", 1, forge.hits(0, 0));
        Check.query(forge, 2, 24, 2, 0, 7, 1, 0, 0, 1);
        Check.same("7 before 0", 0, forge.hits(0, 0));
    }

    private static void twentyFourAreTheMost() {
        BeliefForge forge = new BeliefForge();
        forge.document(0);
        for (int i = 1; i <= 24; i++) {
            Check.same("word " + i, i, forge.word(3));
        }
        Check.state("word 25", () -> forge.word(3));
        Check.argument("word 25, a wrong one", () -> forge.word(16));
        Check.same("length after word 25", 24, forge.count(10));
        Check.same("all after word 25", 24, forge.count(1));
        forge.document(0);
        Check.same("word of the next document", 1, forge.word(3));
    }

    private static void wrongWords() {
        BeliefForge forge = new BeliefForge();
        Check.state("a word without document", () -> forge.word(0));
        Check.argument("a wrong word without document", () -> forge.word(-1));
        forge.document(0);
        for (int w : new int[] {-1, 16, Integer.MIN_VALUE, Integer.MAX_VALUE}) {
            Check.argument("word(" + w + ")", () -> forge.word(w));
        }
        Check.same("length after wrong words", 0, forge.count(10));
    }
}
