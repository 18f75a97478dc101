/** Promise 4: smooth. */
final class Promise04SmoothTest {
    public static void main(String[] args) {
        theSmoothingItWas();
        beliefsFollow();
        muAboveZero();
        muUpToAHundred();
        muUpToOneForOne();
        anotherHow();
        Check.end();
    }

    private static BeliefForge forge() {
        BeliefForge forge = Check.forge("1 2 3", "1 1 5 5 5");
        Check.query(forge, 0, 1, 1);
        return forge;
    }

    private static void theSmoothingItWas() {
        Check.sentence("the SMOOTHING it was");
        BeliefForge forge = new BeliefForge();
        Check.same("the first", 0, forge.smooth(1, 0.5));
        Check.same("after 1", 1, forge.smooth(1, 0.25));
        Check.same("after 1 again", 1, forge.smooth(0, 3.0));
        Check.same("after 0", 0, forge.smooth(0, 1.0));
    }

    private static void beliefsFollow() {
        Check.sentence("SMOOTHING how (0, 1) with mu");
        BeliefForge forge = forge();
        forge.smooth(0, 7.5);
        Check.same("belief by 0 with 7.5", (2 + 7.5 * (3.0 / 8)) / (5 + 7.5), forge.belief(1));
        forge.smooth(0, 0.3);
        Check.same("belief by 0 with 0.3", (2 + 0.3 * (3.0 / 8)) / (5 + 0.3), forge.belief(1));
        forge.smooth(1, 0.3);
        Check.same("belief by 1 with 0.3", (1 - 0.3) * (2.0 / 5) + 0.3 * (3.0 / 8), forge.belief(1));
        forge.smooth(1, 0.9);
        Check.same("belief by 1 with 0.9", (1 - 0.9) * (2.0 / 5) + 0.9 * (3.0 / 8), forge.belief(1));
    }

    private static void refuses(int how, double mu) {
        BeliefForge first = forge();
        String call = "smooth(" + how + ", " + mu + ")";
        Check.refused(first, call, IllegalArgumentException.class, () -> first.smooth(how, mu));
        Check.same("the smoothing after " + call, 0, first.smooth(1, 0.25));
        Check.refused(first, call + " by 1", IllegalArgumentException.class, () -> first.smooth(how, mu));
        Check.same("the smoothing after " + call + " by 1", 1, first.smooth(1, 0.25));
    }

    private static void muAboveZero() {
        Check.sentence("mu (above 0; up to 100, for 1 up to 1)");
        BeliefForge forge = forge();
        double least = Double.MIN_VALUE;
        Check.same("smooth(0, least)", 0, forge.smooth(0, least));
        Check.same("belief by 0 with the least", (2 + least * (3.0 / 8)) / (5 + least), forge.belief(1));
        Check.same("smooth(1, least)", 0, forge.smooth(1, least));
        Check.same("belief by 1 with the least", (1 - least) * (2.0 / 5) + least * (3.0 / 8), forge.belief(1));
        for (int how = 0; how <= 1; how++) {
            for (double mu : new double[] {0.0, -0.0, -least, -0.5, -1.0, -100.0, Double.NEGATIVE_INFINITY, Double.NaN}) {
                refuses(how, mu);
            }
        }
    }

    private static void muUpToAHundred() {
        Check.sentence("mu (above 0; up to 100, for 1 up to 1)");
        BeliefForge forge = forge();
        Check.same("smooth(0, 100)", 0, forge.smooth(0, 100.0));
        Check.same("belief by 0 with 100", (2 + 100.0 * (3.0 / 8)) / (5 + 100.0), forge.belief(1));
        Check.same("smooth(0, 1.5)", 0, forge.smooth(0, 1.5));
        Check.same("belief by 0 with 1.5", (2 + 1.5 * (3.0 / 8)) / (5 + 1.5), forge.belief(1));
        for (double mu : new double[] {Math.nextUp(100.0), 100.5, 101.0, Double.MAX_VALUE, Double.POSITIVE_INFINITY}) {
            refuses(0, mu);
        }
    }

    private static void muUpToOneForOne() {
        Check.sentence("mu (above 0; up to 100, for 1 up to 1)");
        BeliefForge forge = forge();
        Check.same("smooth(1, 1)", 0, forge.smooth(1, 1.0));
        Check.same("belief by 1 with 1", 3.0 / 8, forge.belief(1));
        for (double mu : new double[] {Math.nextUp(1.0), 1.5, 2.0, 100.0, Double.MAX_VALUE, Double.POSITIVE_INFINITY}) {
            refuses(1, mu);
        }
    }

    private static void anotherHow() {
        Check.sentence("IllegalArgumentException if a number is not as said.");
        for (int how : new int[] {-1, 2, 3, Integer.MIN_VALUE, Integer.MAX_VALUE}) {
            refuses(how, 0.5);
            refuses(how, 1.0);
            refuses(how, 0.0);
        }
    }
}
