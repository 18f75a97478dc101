/**
 * The document's terms: LG and EX, seen through MEAN. A MEAN of one NODE with WEIGHT 1 answers EX of LG of its
 * BELIEF, so LG and EX are each looked at beside one of which the answer is known.
 */
final class TermsLgAndExTest {
    public static void main(String[] args) {
        lgIfNotAbove();
        lgJustAbove();
        lgOfPowers();
        lgBetweenPowers();
        lgJustBelowPowers();
        exOfWholeNumbers();
        exBetweenWholeNumbers();
        exIfNotAbove();
        exJustAbove();
        Check.end();
    }

    /** The BELIEF of DOCUMENT 0 in TERM 2 is x, which is at most 0.5. */
    private static BeliefForge forge(double x) {
        BeliefForge forge = Check.forge("1", "2");
        forge.smooth(1, 2 * x);
        Check.query(forge, 0, 2, 1);
        Check.same("the belief that is asked for", x, forge.belief(0));
        return forge;
    }

    private static void exOfLg(double due, double x) {
        BeliefForge forge = forge(x);
        Check.query(forge, 8, 1, 1, 0, 2, 1);
        Check.same("EX of LG of " + x, due, forge.belief(0));
    }

    /** The second NODE is TERM 1, of BELIEF 1 for so small an x, so that its LG is 0. */
    private static void exOfHalfLg(double due, double x) {
        BeliefForge forge = forge(x);
        Check.query(forge, 0, 1, 1);
        Check.same("the belief in the second", 1.0, forge.belief(0));
        Check.query(forge, 8, 2, 1, 0, 2, 1, 0, 1, 1);
        Check.same("EX of half of LG of " + x, due, forge.belief(0));
    }

    private static double power(double m, int n) {
        return Math.scalb(m, n);
    }

    private static void lgIfNotAbove() {
        Check.sentence("LG x, of a double x: -60.0, if x is not above 2^-60");
        double[] low = {power(1, -60), Math.nextDown(power(1, -60)), power(1.5, -61), power(1, -61), power(1, -70),
            power(1, -500), power(1, -1000), Double.MIN_NORMAL, 2 * Double.MIN_VALUE, Double.MIN_VALUE};
        for (double x : low) {
            exOfHalfLg(power(1, -30), x);
        }
        // a BELIEF of 0: what is left of NOT of 1
        BeliefForge zero = Check.forge("1");
        zero.smooth(1, 1.0);
        Check.query(zero, 10, 0, 1, 0, 1, 1);
        Check.same("a belief of 0", 0.0, zero.belief(0));
        Check.query(zero, 8, 2, 1, 10, 0, 1, 0, 1, 1, 0, 1, 1);
        Check.same("EX of half of LG of 0", power(1, -30), zero.belief(0));
    }

    private static void lgJustAbove() {
        Check.sentence("-60.0, if x is not above 2^-60; else n + (m - 1)");
        // half of -60 + 2^-6 is -30 + 2^-7, of which the greatest whole number not above is -30
        exOfHalfLg(power(1 + power(1, -7), -30), power(1 + power(1, -6), -60));
        exOfHalfLg(power(1.25, -30), power(1.5, -60));
        // the least x whose LG is a double above -60
        exOfHalfLg(power(1 + power(1, -48), -30), power(1 + power(1, -47), -60));
        // a sum of doubles: -60 + 2^-52 is -60.0
        exOfHalfLg(power(1, -30), Math.nextUp(power(1, -60)));
    }

    private static void lgOfPowers() {
        Check.sentence("else n + (m - 1), where x is m times 2 to the power of n, with 1 <= m < 2");
        for (int n = -1; n > -60; n--) {
            exOfLg(power(1, n), power(1, n));
        }
        BeliefForge one = Check.forge("1");
        Check.query(one, 8, 1, 1, 0, 1, 1);
        Check.same("EX of LG of 1", 1.0, one.belief(0));
    }

    private static void lgBetweenPowers() {
        Check.sentence("else n + (m - 1), where x is m times 2 to the power of n, with 1 <= m < 2");
        for (int n = -2; n >= -60; n--) {
            exOfLg(power(1.5, n), power(1.5, n));
            exOfLg(power(1.125, n), power(1.125, n));
            exOfLg(power(1.875, n), power(1.875, n));
        }
        // NOT of 1/4 is 1.5 * 2^-1
        BeliefForge forge = forge(0.25);
        Check.query(forge, 8, 1, 1, 10, 0, 1, 0, 2, 1);
        Check.same("EX of LG of 3/4", 0.75, forge.belief(0));
        // LG of 3/4 is -0.5, LG of 1/4 is -2: EX of -1.25 is 1.75 / 4
        Check.query(forge, 8, 2, 1, 10, 0, 1, 0, 2, 1, 0, 2, 1);
        Check.same("EX of the mean of -0.5 and -2", 0.4375, forge.belief(0));
    }

    /** Steps in doubles: what LG and EX of such numbers lose, they lose as the document says. */
    private static void lgJustBelowPowers() {
        Check.sentence("else n + (m - 1), where x is m times 2 to the power of n, with 1 <= m < 2");
        exOfLg(Math.nextDown(0.5), Math.nextDown(0.5));
        for (int n = -2; n > -60; n--) {
            double m = Math.nextDown(2.0);
            double v = (n - 1) + (m - 1);
            double whole = Math.floor(v);
            exOfLg(power(1 + (v - whole), (int) whole), Math.nextDown(power(1, n)));
        }
        // 1 - 2^-53, as NOT of 2^-53
        BeliefForge forge = forge(power(1, -53));
        Check.query(forge, 8, 1, 1, 10, 0, 1, 0, 2, 1);
        Check.same("EX of LG of what is just below 1", Math.nextDown(1.0), forge.belief(0));
    }

    private static void exOfWholeNumbers() {
        Check.sentence("with n the greatest whole number not above v: (1 + (v - n)) times 2 to the power of n");
        BeliefForge forge = Check.forge("1 1 1 1 2 2 3 4");
        forge.smooth(1, 1.0);
        Check.query(forge, 8, 2, 1, 0, 1, 1, 0, 3, 1);
        Check.same("EX of -2", 0.25, forge.belief(0));
        Check.query(forge, 8, 3, 1, 0, 1, 2, 0, 2, 5, 0, 3, 2);
        Check.same("EX of -2, of three", 0.25, forge.belief(0));
        exOfHalfLg(power(1, -29), power(1, -58));
        exOfHalfLg(power(1, -30), power(1, -60));
    }

    private static void exBetweenWholeNumbers() {
        Check.sentence("with n the greatest whole number not above v: (1 + (v - n)) times 2 to the power of n");
        BeliefForge forge = Check.forge("1 1 1 1 2 2 3 4");
        forge.smooth(1, 1.0);
        Check.query(forge, 8, 2, 1, 0, 1, 1, 0, 2, 1);
        Check.same("EX of -1.5", 0.375, forge.belief(0));
        Check.query(forge, 8, 2, 1, 0, 1, 3, 0, 2, 1);
        Check.same("EX of -1.25", 0.4375, forge.belief(0));
        Check.query(forge, 8, 2, 1, 0, 1, 1, 0, 2, 3);
        Check.same("EX of -1.75", 0.3125, forge.belief(0));
        double v = (0.0 + 0.3 * -1.0 + 0.1 * -3.0) / (0.0 + 0.3 + 0.1);
        Check.query(forge, 8, 2, 1, 0, 1, 0.3, 0, 3, 0.1);
        Check.same("EX of " + v, (1 + (v - Math.floor(v))) / 4, forge.belief(0));
    }

    private static void exIfNotAbove() {
        Check.sentence("0.0, if v is not above -60");
        exOfLg(0.0, power(1, -60));
        exOfLg(0.0, Math.nextDown(power(1, -60)));
        exOfLg(0.0, power(1, -61));
        exOfLg(0.0, Double.MIN_VALUE);
        // LG of what is just above 2^-60 is -60.0 in doubles
        exOfLg(0.0, Math.nextUp(power(1, -60)));
        exOfLg(0.0, power(1 + power(1, -48), -60));
    }

    private static void exJustAbove() {
        Check.sentence("0.0, if v is not above -60");
        exOfLg(power(1 + power(1, -47), -60), power(1 + power(1, -47), -60));
        exOfLg(power(1.5, -60), power(1.5, -60));
        exOfLg(power(1, -59), power(1, -59));
        // LG -60 with WEIGHT 100 and LG 0 with a little WEIGHT
        BeliefForge forge = forge(power(1, -60));
        double little = power(1, -30);
        double v = (0.0 + 100 * -60.0 + little * 0.0) / (0.0 + 100 + little);
        Check.query(forge, 8, 2, 1, 0, 2, 100, 0, 1, little);
        Check.same("EX of " + v, power(1 + (v + 60), -60), forge.belief(0));
        Check.same("whether that is above 2^-60", 1, forge.belief(0) > power(1, -60) ? 1 : 0);
    }
}
