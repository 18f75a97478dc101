/** Promise 14: told. */
final class Promise14ToldTest {
    public static void main(String[] args) {
        everyToken();
        aThatIsNotLookedAt();
        theLastOfTwentyFour();
        ifThereIsNone();
        forAnotherWhat();
        whatIsNamedFirstIsThrown();
        Check.end();
    }

    private static void everyToken() {
        Check.sentence("Of TOKEN t (0 the first) what 0: kind, 1: a, 2: w.");
        double[][] tokens = {{8, 4, 0.1}, {2, 24, 2}, {0, 15, 100}, {0, 0, Double.MIN_VALUE}, {1, 7, 3.75}, {10, 2, 1}, {3, 1, 1}};
        BeliefForge forge = new BeliefForge();
        for (double[] token : tokens) {
            forge.token((int) token[0], (int) token[1], token[2]);
        }
        for (int t = 0; t < tokens.length; t++) {
            for (int what = 0; what < 3; what++) {
                Check.same("told(" + t + ", " + what + ")", tokens[t][what], forge.told(t, what));
            }
        }
    }

    private static void aThatIsNotLookedAt() {
        Check.sentence("Of TOKEN t (0 the first) what 0: kind, 1: a, 2: w.");
        for (int kind : new int[] {4, 10, 11}) {
            for (int a : new int[] {-7, 0, 99, Integer.MIN_VALUE, Integer.MAX_VALUE}) {
                BeliefForge forge = new BeliefForge();
                forge.token(kind, a, 1.0);
                Check.same("a of kind " + kind, (double) a, forge.told(0, 1));
            }
        }
    }

    private static void theLastOfTwentyFour() {
        Check.sentence("Of TOKEN t (0 the first) what 0: kind, 1: a, 2: w.");
        BeliefForge forge = new BeliefForge();
        for (int t = 0; t < 24; t++) {
            forge.token(10, t, 1.0 + t);
        }
        for (int t = 0; t < 24; t++) {
            Check.same("told(" + t + ", 1)", (double) t, forge.told(t, 1));
            Check.same("told(" + t + ", 2)", 1.0 + t, forge.told(t, 2));
        }
        Check.index("told(24, 0) of 24", () -> forge.told(24, 0));
    }

    private static void ifThereIsNone() {
        Check.sentence("IndexOutOfBoundsException if there is none");
        BeliefForge forge = new BeliefForge();
        Check.index("told(0, 0) of an empty query", () -> forge.told(0, 0));
        forge.token(5, 2, 1.0);
        forge.token(0, 1, 1.0);
        Check.refused(forge, "told(2, 0) of two", IndexOutOfBoundsException.class, () -> forge.told(2, 0));
        for (int t : new int[] {-1, 2, 3, 23, 24, Integer.MIN_VALUE, Integer.MAX_VALUE}) {
            for (int what = 0; what < 3; what++) {
                int which = what;
                Check.index("told(" + t + ", " + what + ") of two", () -> forge.told(t, which));
            }
        }
        forge.clear();
        Check.index("told(0, 0) after clear", () -> forge.told(0, 0));
        forge.token(0, 1, 1.0);
        Check.index("told(1, 0), a token before clear", () -> forge.told(1, 0));
    }

    private static void forAnotherWhat() {
        Check.sentence("IllegalArgumentException for another what.");
        BeliefForge forge = new BeliefForge();
        forge.token(5, 2, 1.0);
        forge.token(0, 1, 1.0);
        Check.refused(forge, "told(0, 3)", IllegalArgumentException.class, () -> forge.told(0, 3));
        for (int what : new int[] {-1, 3, 4, Integer.MIN_VALUE, Integer.MAX_VALUE}) {
            Check.argument("told(0, " + what + ")", () -> forge.told(0, what));
            Check.argument("told(1, " + what + ")", () -> forge.told(1, what));
        }
    }

    private static void whatIsNamedFirstIsThrown() {
        Check.sentence("IndexOutOfBoundsException, IllegalArgumentException");
        BeliefForge forge = new BeliefForge();
        Check.index("told(0, 3) of an empty query", () -> forge.told(0, 3));
        forge.token(0, 1, 1.0);
        Check.index("told(1, 3) of one", () -> forge.told(1, 3));
        Check.index("told(-1, -1) of one", () -> forge.told(-1, -1));
    }
}
