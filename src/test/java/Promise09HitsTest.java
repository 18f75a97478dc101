/** Promise 9: hits. */
final class Promise09HitsTest {
    public static void main(String[] args) {
        termsAndTitles();
        ways();
        waysTakeTheNearest();
        around();
        any();
        nodesInsideOthers();
        wrongOnes();
        Check.end();
    }

    private static void due(int hits, String text, double... query) {
        BeliefForge forge = Check.forge(text);
        Check.query(forge, query);
        Check.same("hits of " + java.util.Arrays.toString(query) + " in " + text, hits, forge.hits(0, 0));
    }

    private static void termsAndTitles() {
        due(3, "1 2|1 3 1", 0, 1, 1);
        due(1, "1 2|1 3 1", 1, 1, 1);
        due(0, "1 2|1 3 1", 1, 3, 1);
        due(0, "1 2|1 3 1", 0, 9, 1);
        due(0, "", 0, 1, 1);
        due(0, "", 1, 1, 1);
    }

    private static void ways() {
        due(2, "1 2 1 3 2", 2, 2, 2, 0, 1, 1, 0, 2, 1);
        due(1, "1 2 1 3 2", 2, 1, 2, 0, 1, 1, 0, 2, 1);
        due(0, "2 1", 2, 24, 2, 0, 1, 1, 0, 2, 1);
        due(3, "1 1 1", 2, 1, 1, 0, 1, 1);
        due(2, "1 1 1", 2, 1, 2, 0, 1, 1, 0, 1, 1);
        due(1, "1 1 1", 2, 1, 3, 0, 1, 1, 0, 1, 1, 0, 1, 1);
        due(0, "1 1 1", 2, 24, 4, 0, 1, 1, 0, 1, 1, 0, 1, 1, 0, 1, 1);
        due(1, "1 0 2 0 3 0 4", 2, 2, 4, 0, 1, 1, 0, 2, 1, 0, 3, 1, 0, 4, 1);
        due(0, "1 0 2 0 3 0 0 4", 2, 2, 4, 0, 1, 1, 0, 2, 1, 0, 3, 1, 0, 4, 1);
        String far = "1" + " 0".repeat(22) + " 2";
        due(1, far, 2, 23, 2, 0, 1, 1, 0, 2, 1);
        due(0, far, 2, 22, 2, 0, 1, 1, 0, 2, 1);
        due(0, "1", 2, 24, 2, 0, 1, 1, 0, 2, 1);
    }

    /** The way goes over the nearest 2, though a later 2 would be near enough to the 3. */
    private static void waysTakeTheNearest() {
        due(0, "1 2 2 0 3", 2, 2, 3, 0, 1, 1, 0, 2, 1, 0, 3, 1);
        due(1, "1 2 2 0 3", 2, 3, 3, 0, 1, 1, 0, 2, 1, 0, 3, 1);
        due(2, "1 1 2 3", 2, 2, 3, 0, 1, 1, 0, 2, 1, 0, 3, 1);
    }

    private static void around() {
        due(1, "2 1 0 0 1", 3, 2, 2, 0, 1, 1, 0, 2, 1);
        due(1, "1 2 0 0 1", 3, 2, 2, 0, 1, 1, 0, 2, 1);
        due(2, "1 0 2 1", 3, 3, 2, 0, 1, 1, 0, 2, 1);
        due(1, "1 0 2 1", 3, 2, 2, 0, 1, 1, 0, 2, 1);
        due(0, "1 2 1 2", 3, 1, 2, 0, 1, 1, 0, 2, 1);
        due(2, "1 2 1 2", 3, 1, 2, 0, 1, 1, 0, 1, 1);
        due(2, "1 2 1 2", 3, 1, 1, 0, 1, 1);
        due(0, "0 1 2", 3, 3, 3, 0, 1, 1, 0, 2, 1, 0, 3, 1);
        due(1, "0 1 2 3", 3, 3, 3, 0, 1, 1, 0, 2, 1, 0, 3, 1);
        due(3, "0 4 3 2 1 1 4 3", 3, 5, 4, 0, 1, 1, 0, 2, 1, 0, 3, 1, 0, 4, 1);
        due(1, "0 4 3 2 1 1 4 3", 3, 4, 4, 0, 1, 1, 0, 2, 1, 0, 3, 1, 0, 4, 1);
        due(1, "1" + " 0".repeat(22) + " 2", 3, 24, 2, 0, 1, 1, 0, 2, 1);
        due(0, "1" + " 0".repeat(22) + " 2", 3, 23, 2, 0, 1, 1, 0, 2, 1);
    }

    private static void any() {
        due(4, "1 2 3 1 2", 4, 0, 2, 0, 1, 1, 0, 2, 1);
        due(2, "1 2 3 1 2", 4, 0, 2, 0, 1, 1, 0, 1, 1);
        due(5, "1 2 3 1 2", 4, 0, 4, 0, 1, 1, 0, 2, 1, 0, 3, 1, 0, 4, 1);
        due(1, "1 2 3 1 2", 4, 0, 1, 0, 3, 1);
    }

    private static void nodesInsideOthers() {
        BeliefForge forge = Check.forge("1 2|3 1 2", "2 2", "");
        Check.query(forge, 5, 3, 1, 2, 1, 2, 0, 1, 1, 0, 2, 1, 10, 0, 1, 1, 2, 1, 4, 0, 1, 0, 3, 1);
        Check.same("NEAR", 2, forge.hits(1, 0));
        Check.same("its first TERM", 2, forge.hits(2, 0));
        Check.same("its second TERM", 2, forge.hits(3, 0));
        Check.same("its second TERM elsewhere", 2, forge.hits(3, 1));
        Check.same("TITLE", 1, forge.hits(5, 0));
        Check.same("TITLE elsewhere", 0, forge.hits(5, 1));
        Check.same("ANY", 1, forge.hits(6, 0));
        Check.same("a document without words", 0, forge.hits(6, 2));
        Check.unsupported("AND", () -> forge.hits(0, 0));
        Check.unsupported("NOT", () -> forge.hits(4, 0));
    }

    private static void wrongOnes() {
        for (int kind = 5; kind <= 11; kind++) {
            BeliefForge forge = Check.forge("1");
            forge.token(kind, 1, 1.0);
            Check.state("hits of kind " + kind + " not whole", () -> forge.hits(0, 0));
            while (forge.wanted() > 0) {
                forge.token(0, 1, 1.0);
            }
            Check.unsupported("hits of kind " + kind, () -> forge.hits(0, 0));
            Check.same("hits of a part of kind " + kind, 1, forge.hits(1, 0));
        }
        BeliefForge forge = Check.forge("1");
        Check.index("no token", () -> forge.hits(0, 0));
        forge.token(10, 0, 1.0);
        for (int wrong : new int[] {-1, 1, 12, 24, Integer.MIN_VALUE, Integer.MAX_VALUE}) {
            Check.index("token " + wrong, () -> forge.hits(wrong, 0));
            Check.index("document " + wrong, () -> forge.hits(0, wrong));
        }
        forge.token(0, 1, 1.0);
        Check.index("document 1 of an operator", () -> forge.hits(0, 1));
        Check.index("token 2", () -> forge.hits(2, 0));
    }
}
