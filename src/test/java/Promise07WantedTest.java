/** Promise 7: wanted. */
final class Promise07WantedTest {
    public static void main(String[] args) {
        everyKind();
        downToWhole();
        oneIfItIsEmpty();
        theMost();
        refusedTokensAreNotCounted();
        Check.end();
    }

    private static void everyKind() {
        Check.sentence("How many NODES are still wanted till the QUERY is WHOLE");
        int[][] partsOfFirst = {{0, 0}, {1, 0}, {10, 1}, {11, 2}};
        for (int[] row : partsOfFirst) {
            Check.same("wanted behind kind " + row[0], row[1], wantedBehind(row[0], 3, 1.0));
            Check.same("wanted behind kind " + row[0] + " of another w", row[1], wantedBehind(row[0], 3, 4.0));
        }
        for (int parts = 1; parts <= 4; parts++) {
            for (int kind = 2; kind <= 4; kind++) {
                Check.same("wanted behind window " + kind, parts, wantedBehind(kind, 7 - parts, parts));
            }
            for (int kind = 5; kind <= 9; kind++) {
                Check.same("wanted behind operator " + kind, parts, wantedBehind(kind, parts, 5 - parts));
            }
        }
    }

    private static int wantedBehind(int kind, int a, double w) {
        BeliefForge forge = new BeliefForge();
        forge.token(kind, a, w);
        return forge.wanted();
    }

    private static void downToWhole() {
        Check.sentence("How many NODES are still wanted till the QUERY is WHOLE");
        BeliefForge forge = new BeliefForge();
        double[][] tokens = {{6, 3, 1}, {2, 5, 2}, {0, 1, 1}, {0, 2, 1}, {11, 0, 1}, {10, 0, 1}, {1, 1, 1}, {0, 1, 1}, {0, 4, 1}};
        int[] due = {3, 4, 3, 2, 3, 3, 2, 1, 0};
        for (int t = 0; t < due.length; t++) {
            forge.token((int) tokens[t][0], (int) tokens[t][1], tokens[t][2]);
            Check.same("wanted behind token " + t, due[t], forge.wanted());
        }
    }

    private static void oneIfItIsEmpty() {
        Check.sentence("(1 if it is empty)");
        BeliefForge forge = Check.forge("1");
        Check.same("wanted at first", 1, forge.wanted());
        forge.token(11, 0, 1.0);
        forge.clear();
        Check.same("wanted after clear", 1, forge.wanted());
        forge.token(0, 1, 1.0);
        forge.clear();
        Check.same("wanted after clear of a whole query", 1, forge.wanted());
        forge.smooth(1, 1.0);
        Check.query(forge, 10, 0, 1, 0, 1, 1);
        forge.search(1);
        Check.same("tokens of a model without words", 0, forge.model(4));
        Check.same("wanted after a model without words", 1, forge.wanted());
    }

    private static void theMost() {
        Check.sentence("How many NODES are still wanted till the QUERY is WHOLE");
        BeliefForge forge = new BeliefForge();
        for (int i = 0; i < 24; i++) {
            forge.token(9, 4, 1.0);
            Check.same("wanted behind POINT " + i, 4 + 3 * i, forge.wanted());
        }
        Check.state("token 25", () -> forge.token(0, 1, 1.0));
        Check.same("the most that can be wanted", 73, forge.wanted());
    }

    private static void refusedTokensAreNotCounted() {
        Check.sentence("How many NODES are still wanted till the QUERY is WHOLE");
        BeliefForge forge = new BeliefForge();
        forge.token(2, 1, 3.0);
        Check.unsupported("NOT in a window", () -> forge.token(10, 1, 1.0));
        Check.argument("a wrong TERM", () -> forge.token(0, 16, 1.0));
        Check.same("wanted after refused ones", 3, forge.wanted());
    }
}
