/** Promise 14: told. */
final class Promise14ToldTest {
    public static void main(String[] args) {
        everyToken();
        aThatIsNotLookedAt();
        wrongOnes();
        Check.end();
    }

    private static void everyToken() {
        double[][] tokens = {{8, 4, 0.1}, {2, 24, 2}, {0, 15, 100}, {0, 0, Double.MIN_VALUE}, {1, 7, 3.75}, {10, 2, 1}, {3, 1, 1}};
        BeliefForge forge = new BeliefForge();
        for (double[] token : tokens) {
            forge.token((int) token[0], (int) token[1], token[2]);
        }
        for (int t = 0; t < tokens.length; t++) {
            for (int what = 0; what < 3; what++) {
                Check.same("told(" + t + ", " + what + ")", tokens[t][what], forge.told(t, what));
            }
        }
    }

    private static void aThatIsNotLookedAt() {
        for (int kind : new int[] {4, 10, 11}) {
            for (int a : new int[] {-7, 0, 99, Integer.MIN_VALUE, Integer.MAX_VALUE}) {
                BeliefForge forge = new BeliefForge();
                forge.token(kind, a, 1.0);
                Check.same("a of kind " + kind, (double) a, forge.told(0, 1));
            }
        }
    }

    private static void wrongOnes() {
        BeliefForge forge = new BeliefForge();
        Check.index("told(0, 0) of an empty query", () -> forge.told(0, 0));
        Check.index("told(0, 3) of an empty query", () -> forge.told(0, 3));
        forge.token(5, 2, 1.0);
        forge.token(0, 1, 1.0);
        for (int t : new int[] {-1, 2, 24, Integer.MIN_VALUE, Integer.MAX_VALUE}) {
            Check.index("told(" + t + ", 0)", () -> forge.told(t, 0));
            Check.index("told(" + t + ", -1)", () -> forge.told(t, -1));
        }
        for (int what : new int[] {-1, 3, Integer.MIN_VALUE, Integer.MAX_VALUE}) {
            Check.argument("told(1, " + what + ")", () -> forge.told(1, what));
        }
        forge.clear();
        Check.index("told(0, 0) after clear", () -> forge.told(0, 0));
    }
}
