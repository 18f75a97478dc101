/** The document's terms: DOCUMENTS, WORDS, TITLE, LEN and ALL, and how long an object is used. */
final class TermsDocumentsTest {
    public static void main(String[] args) {
        twelveOfTwentyFourWords();
        theTitle();
        lenAndAll();
        theLastCallOfAnObject();
        Check.end();
    }

    /** Each DOCUMENT has its own WORD last; 300 calls fill the object. */
    private static void twelveOfTwentyFourWords() {
        Check.sentence("DOCUMENTS 0, 1, .. (at most 12) are rows of at most 24 WORDS (0 to 15)");
        BeliefForge forge = new BeliefForge();
        for (int d = 0; d < 12; d++) {
            Check.same("document " + d, d, forge.document(24));
            for (int i = 1; i <= 24; i++) {
                Check.same("word " + i + " of document " + d, i, forge.word(i == 24 ? d : 15));
            }
        }
        Check.state("a 13th document", () -> forge.document(0));
        Check.state("a 25th word", () -> forge.word(0));
        for (int d = 0; d < 12; d++) {
            Check.query(forge, 1, d, 1);
            Check.same("hits of its word in document " + d, 1, forge.hits(0, d));
            Check.same("hits of its word elsewhere", 0, forge.hits(0, (d + 1) % 12));
            Check.same("belief(" + d + ")", (1 + 2.0 * (1.0 / 288)) / (24 + 2.0), forge.belief(d));
        }
        Check.same("search(10)", 10, forge.search(10));
        Check.same("found(0)", 11, forge.found(0));
        Check.same("found(9)", 8, forge.found(9));
    }

    private static void theTitle() {
        Check.sentence("the first ones, as many as said, are its TITLE");
        String[] texts = {"1 2 1", "1|2 1", "1 2|1", "1 2 1|"};
        int[] ones = {0, 1, 1, 2};
        int[] twos = {0, 0, 1, 1};
        BeliefForge forge = Check.forge(texts);
        for (int d = 0; d < texts.length; d++) {
            Check.query(forge, 1, 1, 1);
            Check.same("1 in the title of " + texts[d], ones[d], forge.hits(0, d));
            Check.query(forge, 1, 2, 1);
            Check.same("2 in the title of " + texts[d], twos[d], forge.hits(0, d));
        }
        forge.document(3);
        forge.word(2);
        Check.same("a title that is longer than the document", 1, forge.hits(0, 4));
        forge.document(0);
        forge.word(2);
        Check.same("no title, behind a document that had a longer one", 0, forge.hits(0, 5));
        Check.same("the longer title takes no word of the next", 1, forge.hits(0, 4));
    }

    private static void lenAndAll() {
        Check.sentence("LEN is how many WORDS a DOCUMENT has, ALL the sum of all LEN.");
        BeliefForge forge = new BeliefForge();
        Check.same("all without documents", 0, forge.count(1));
        forge.document(24);
        Check.same("all without words", 0, forge.count(1));
        Check.query(forge, 0, 1, 1);
        forge.word(1);
        Check.same("all of one word", 1, forge.count(1));
        Check.same("belief where LEN and ALL are 1", (1 + 2.0 * (1.0 / 1)) / (1 + 2.0), forge.belief(0));
        Check.query(forge, 0, 2, 1);
        Check.same("belief where CF is 0", (0 + 2.0 * (0.5 / 1)) / (1 + 2.0), forge.belief(0));
        Check.add(forge, "");
        Check.add(forge, "3 3 3");
        Check.same("all of three documents", 4, forge.count(1));
        Check.same("belief where ALL is 4", (0 + 2.0 * (0.5 / 4)) / (1 + 2.0), forge.belief(0));
    }

    private static void theLastCallOfAnObject() {
        Check.sentence("An object is used for at most 512 calls after it has been made");
        BeliefForge forge = new BeliefForge();
        for (int call = 1; call <= 503; call++) {
            forge.clear();
        }
        Check.same("call 504: document(1)", 0, forge.document(1));
        Check.same("call 505: word(3)", 1, forge.word(3));
        Check.same("call 506: smooth(1, 1)", 0, forge.smooth(1, 1.0));
        Check.same("call 507: token(1, 3, 1)", 1, forge.token(1, 3, 1.0));
        Check.same("call 508: hits(0, 0)", 1, forge.hits(0, 0));
        Check.same("call 509: search(10)", 1, forge.search(10));
        Check.same("call 510: score(0)", 1.0, forge.score(0));
        Check.same("call 511: model(4)", 1, forge.model(4));
        Check.same("call 512: belief(0)", 1.0, forge.belief(0));
    }
}
