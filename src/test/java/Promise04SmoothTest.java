/** Promise 4: smooth. */
final class Promise04SmoothTest {
    public static void main(String[] args) {
        theSmoothingItWas();
        edgesOfMu();
        wrongNumbersChangeNothing();
        beliefsFollow();
        Check.end();
    }

    private static void theSmoothingItWas() {
        BeliefForge forge = new BeliefForge();
        Check.same("the first", 0, forge.smooth(1, 0.5));
        Check.same("after 1", 1, forge.smooth(1, 0.25));
        Check.same("after 1 again", 1, forge.smooth(0, 3.0));
        Check.same("after 0", 0, forge.smooth(0, 1.0));
    }

    private static void edgesOfMu() {
        BeliefForge forge = new BeliefForge();
        Check.same("smooth(0, 100)", 0, forge.smooth(0, 100.0));
        Check.same("smooth(0, least)", 0, forge.smooth(0, Double.MIN_VALUE));
        Check.same("smooth(1, 1)", 0, forge.smooth(1, 1.0));
        Check.same("smooth(1, least)", 1, forge.smooth(1, Double.MIN_VALUE));
    }

    private static void wrongNumbersChangeNothing() {
        BeliefForge forge = Check.forge("1 2 3");
        Check.query(forge, 0, 1, 1);
        forge.smooth(1, 0.25);
        double before = forge.belief(0);
        double[] never = {0.0, -0.0, -1.0, Double.NaN, Double.NEGATIVE_INFINITY, Double.POSITIVE_INFINITY};
        for (double mu : never) {
            Check.argument("smooth(0, " + mu + ")", () -> forge.smooth(0, mu));
            Check.argument("smooth(1, " + mu + ")", () -> forge.smooth(1, mu));
        }
        Check.argument("smooth(0, above 100)", () -> forge.smooth(0, Math.nextUp(100.0)));
        Check.argument("smooth(1, above 1)", () -> forge.smooth(1, Math.nextUp(1.0)));
        for (int how : new int[] {-1, 2, Integer.MIN_VALUE, Integer.MAX_VALUE}) {
            Check.argument("smooth(" + how + ", 0.5)", () -> forge.smooth(how, 0.5));
        }
        Check.same("belief after wrong numbers", before, forge.belief(0));
        Check.same("smoothing after wrong numbers", 1, forge.smooth(0, 1.0));
    }

    private static void beliefsFollow() {
        BeliefForge forge = Check.forge("1 2 3", "1 1 5 5 5");
        Check.query(forge, 0, 1, 1);
        forge.smooth(0, 7.5);
        Check.same("belief by 0 with 7.5", (2 + 7.5 * (3.0 / 8)) / (5 + 7.5), forge.belief(1));
        forge.smooth(1, 0.3);
        Check.same("belief by 1 with 0.3", (1 - 0.3) * (2.0 / 5) + 0.3 * (3.0 / 8), forge.belief(1));
        forge.smooth(1, 1.0);
        Check.same("belief by 1 with 1", 3.0 / 8, forge.belief(1));
    }
}
