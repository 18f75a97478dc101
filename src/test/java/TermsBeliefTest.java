/** The document's terms: THE BELIEF of a DOCUMENT in every NODE but MUST (see TermsMustTest) and MEAN's LG and EX. */
final class TermsBeliefTest {
    public static void main(String[] args) {
        bySmoothingZero();
        bySmoothingOne();
        orOneHalfIfThatIsZero();
        windowsAndTitles();
        and();
        or();
        max();
        means();
        point();
        not();
        stepsGoFromTheFirstOn();
        Check.end();
    }

    private static void due(double belief, BeliefForge forge, double... query) {
        Check.query(forge, query);
        Check.same("belief(0) in " + java.util.Arrays.toString(query), belief, forge.belief(0));
    }

    /** With SMOOTHING 1 and mu 1 the BELIEF in a TERM is CF / ALL: 1/2, 1/4, 1/8 and 1/8 for these WORDS. */
    private static BeliefForge eighths() {
        BeliefForge forge = Check.forge("1 1 1 1 2 2 3 4");
        forge.smooth(1, 1.0);
        return forge;
    }

    private static void bySmoothingZero() {
        Check.sentence("by SMOOTHING 0: (TF + mu * (c / ALL)) / (LEN + mu)");
        BeliefForge forge = Check.forge("1 2 3", "1 1 4 5 6 7 8", "");
        due((1 + 2.0 * (3.0 / 10)) / (3 + 2.0), forge, 0, 1, 1);
        Check.same("belief(1)", (2 + 2.0 * (3.0 / 10)) / (7 + 2.0), forge.belief(1));
        forge.smooth(0, 0.1);
        due((0 + 0.1 * (1.0 / 10)) / (3 + 0.1), forge, 0, 8, 1);
        forge.smooth(0, 100);
        due((0 + 100.0 * (1.0 / 10)) / (3 + 100.0), forge, 0, 8, 1);
        // nothing but the WORD: TF is LEN, and c is ALL
        BeliefForge certain = Check.forge("7 7", "7");
        due(1.0, certain, 0, 7, 1);
        certain.smooth(0, Double.MIN_VALUE);
        due(1.0, certain, 0, 7, 1);
        due(0.0, certain, 0, 6, 1);
    }

    private static void bySmoothingOne() {
        Check.sentence("by SMOOTHING 1: (1 - mu) * (TF / LEN) + mu * (c / ALL), in doubles");
        BeliefForge forge = Check.forge("1 2 3", "1 1 4 5 6 7 8", "");
        forge.smooth(1, 0.1);
        due((1 - 0.1) * (1.0 / 3) + 0.1 * (3.0 / 10), forge, 0, 1, 1);
        Check.same("belief(1)", (1 - 0.1) * (2.0 / 7) + 0.1 * (3.0 / 10), forge.belief(1));
        forge.smooth(1, 0.7);
        due((1 - 0.7) * (0.0 / 3) + 0.7 * (1.0 / 10), forge, 0, 8, 1);
        forge.smooth(1, 1.0);
        due(3.0 / 10, forge, 0, 1, 1);
        Check.same("belief(1) with mu 1, the same", 3.0 / 10, forge.belief(1));
        // a mu so small that nothing but TF / LEN is left
        forge.smooth(1, Double.MIN_VALUE);
        due(1.0 / 3, forge, 0, 1, 1);
        due(0.0, forge, 0, 8, 1);
    }

    private static void orOneHalfIfThatIsZero() {
        Check.sentence("c being CF, or 0.5 if that is 0");
        BeliefForge forge = Check.forge("1 2 3", "4 4 4 4");
        due((0 + 2.0 * (0.5 / 7)) / (3 + 2.0), forge, 0, 9, 1);
        due((0 + 2.0 * (0.5 / 7)) / (3 + 2.0), forge, 1, 1, 1);
        due((0 + 2.0 * (0.5 / 7)) / (3 + 2.0), forge, 2, 24, 2, 0, 3, 1, 0, 1, 1);
        due((0 + 2.0 * (0.5 / 7)) / (3 + 2.0), forge, 3, 24, 2, 0, 1, 1, 0, 4, 1);
        due((0 + 2.0 * (0.5 / 7)) / (3 + 2.0), forge, 4, 0, 2, 0, 8, 1, 0, 9, 1);
        // the CF of all, though there are none in this one
        due((0 + 2.0 * (4.0 / 7)) / (3 + 2.0), forge, 0, 4, 1);
        forge.smooth(1, 0.4);
        due((1 - 0.4) * (0.0 / 3) + 0.4 * (0.5 / 7), forge, 0, 9, 1);
        // a CF of 1 is 1
        due((1 - 0.4) * (1.0 / 3) + 0.4 * (1.0 / 7), forge, 0, 1, 1);
        forge.word(9);
        due((1 - 0.4) * (0.0 / 3) + 0.4 * (1.0 / 8), forge, 0, 9, 1);
    }

    private static void windowsAndTitles() {
        Check.sentence("THE BELIEF of a DOCUMENT in a NODE 0 to 4");
        BeliefForge forge = Check.forge("1 2|3 1 2", "2 1 2|1", "5 5 5");
        due((1 + 2.0 * (2.0 / 12)) / (5 + 2.0), forge, 1, 1, 1);
        due((2 + 2.0 * (3.0 / 12)) / (5 + 2.0), forge, 2, 1, 2, 0, 1, 1, 0, 2, 1);
        due((2 + 2.0 * (5.0 / 12)) / (5 + 2.0), forge, 3, 2, 2, 0, 1, 1, 0, 2, 1);
        due((4 + 2.0 * (8.0 / 12)) / (5 + 2.0), forge, 4, 0, 2, 0, 1, 1, 0, 2, 1);
    }

    private static void and() {
        Check.sentence("AND: the product (1.0 times each, from the first on).");
        BeliefForge forge = eighths();
        due(0.5, forge, 5, 1, 1, 0, 1, 1);
        due(0.5 * 0.25, forge, 5, 2, 1, 0, 1, 1, 0, 2, 1);
        due(0.5 * 0.25 * 0.125, forge, 5, 3, 1, 0, 1, 1, 0, 2, 1, 0, 3, 1);
        due(0.5 * 0.5 * 0.25 * 0.125, forge, 5, 4, 1, 0, 1, 1, 0, 1, 1, 0, 2, 1, 0, 3, 1);
        // a BELIEF of 0, first or last
        BeliefForge certain = Check.forge("1");
        due(0.0, certain, 5, 2, 1, 10, 0, 1, 0, 1, 1, 0, 1, 1);
        due(0.0, certain, 5, 2, 1, 0, 1, 1, 10, 0, 1, 0, 1, 1);
        due(1.0, certain, 5, 4, 1, 0, 1, 1, 0, 1, 1, 0, 1, 1, 0, 1, 1);
    }

    private static void or() {
        Check.sentence("OR: 1 less the product of 1 less each.");
        BeliefForge forge = eighths();
        due(0.25, forge, 6, 1, 1, 0, 2, 1);
        due(1 - 0.5 * 0.75, forge, 6, 2, 1, 0, 1, 1, 0, 2, 1);
        due(1 - 0.5 * 0.75 * 0.875, forge, 6, 3, 1, 0, 1, 1, 0, 2, 1, 0, 3, 1);
        due(1 - 0.5 * 0.75 * 0.875 * 0.875, forge, 6, 4, 1, 0, 1, 1, 0, 2, 1, 0, 3, 1, 0, 4, 1);
        BeliefForge certain = Check.forge("1");
        due(1.0, certain, 6, 2, 1, 10, 0, 1, 0, 1, 1, 0, 1, 1);
        due(0.0, certain, 6, 2, 1, 10, 0, 1, 0, 1, 1, 10, 0, 1, 0, 1, 1);
    }

    private static void max() {
        Check.sentence("MAX: the greatest.");
        BeliefForge forge = eighths();
        due(0.125, forge, 7, 1, 1, 0, 3, 1);
        due(0.5, forge, 7, 2, 1, 0, 2, 1, 0, 1, 1);
        due(0.5, forge, 7, 2, 1, 0, 1, 1, 0, 2, 1);
        due(0.5, forge, 7, 3, 1, 0, 2, 1, 0, 1, 1, 0, 3, 1);
        due(0.5, forge, 7, 4, 1, 0, 2, 1, 0, 3, 1, 0, 2, 1, 0, 1, 1);
        due(0.25, forge, 7, 2, 1, 0, 2, 1, 0, 2, 1);
        BeliefForge certain = Check.forge("1");
        due(0.0, certain, 7, 2, 1, 10, 0, 1, 0, 1, 1, 10, 0, 1, 0, 1, 1);
    }

    private static void means() {
        Check.sentence("MEAN: EX of (the sum of WEIGHT * LG of each) / the sum of the WEIGHTS.");
        BeliefForge forge = eighths();
        // LG: -1, -2, -3
        due(0.5, forge, 8, 1, 1, 0, 1, 0.1);
        due(0.375, forge, 8, 2, 1, 0, 1, 3, 0, 3, 1);
        due(0.1875, forge, 8, 2, 1, 0, 1, 1, 0, 3, 3);
        due(0.25, forge, 8, 3, 1, 0, 1, 2, 0, 2, 5, 0, 3, 2);
        due(0.25, forge, 8, 4, 1, 0, 1, 2, 0, 2, 5, 0, 3, 1, 0, 4, 1);
        // LG of 3/4 is -1 + 0.5, that of 7/8 is -1 + 0.75
        due(0.8125, forge, 8, 2, 1, 10, 0, 1, 0, 2, 1, 10, 0, 1, 0, 3, 1);
        due(0.3125, forge, 8, 2, 1, 10, 0, 7, 0, 2, 1, 0, 3, 7);
        // the greatest and the least WEIGHT: -100 / 100 and nearly so
        due(0.5, forge, 8, 2, 1, 0, 1, 100, 0, 3, Double.MIN_VALUE);
        due(0.125, forge, 8, 2, 1, 0, 1, Double.MIN_VALUE, 0, 3, 100);
    }

    private static void point() {
        Check.sentence("POINT: (the sum of WEIGHT * each) / the sum of the WEIGHTS (sums from 0.0, in order).");
        BeliefForge forge = eighths();
        due(0.40625, forge, 9, 2, 1, 0, 1, 3, 0, 3, 1);
        due(0.21875, forge, 9, 2, 1, 0, 1, 1, 0, 3, 3);
        due(0.5, forge, 9, 1, 1, 0, 1, 0.5);
        due((0.0 + 0.3 * 0.5 + 0.1 * 0.125) / (0.0 + 0.3 + 0.1), forge, 9, 2, 1, 0, 1, 0.3, 0, 3, 0.1);
        // the least WEIGHT, of which one half is 0.0 in doubles
        due(0.0 / Double.MIN_VALUE, forge, 9, 1, 1, 0, 1, Double.MIN_VALUE);
        due(0.5, forge, 9, 2, 1, 0, 1, 100, 0, 3, Double.MIN_VALUE);
        due(0.25, forge, 9, 4, 1, 0, 1, 100, 0, 2, 100, 0, 3, 100, 0, 4, 100);
    }

    private static void not() {
        Check.sentence("NOT: 1 less it.");
        BeliefForge forge = eighths();
        due(0.75, forge, 10, 0, 1, 0, 2, 1);
        due(0.25, forge, 10, 0, 1, 10, 0, 1, 0, 2, 1);
        due(1 - (1 - 0.25) * 0.5, forge, 10, 0, 1, 5, 2, 1, 10, 0, 1, 0, 2, 1, 0, 1, 1);
        BeliefForge certain = Check.forge("1");
        due(0.0, certain, 10, 0, 1, 0, 1, 1);
        due(1.0, certain, 10, 0, 1, 10, 0, 1, 0, 1, 1);
        // a BELIEF so small that nothing of it is left in 1 less it
        BeliefForge small = Check.forge("1", "2");
        small.smooth(1, Math.scalb(1.0, -60));
        due(1.0, small, 10, 0, 1, 0, 2, 1);
        due(0.0, small, 10, 0, 1, 10, 0, 1, 0, 2, 1);
        due(0.0, small, 6, 1, 1, 0, 2, 1);
    }

    /** Other orders of these steps give other last bits. */
    private static void stepsGoFromTheFirstOn() {
        Check.sentence("(1.0 times each, from the first on)");
        BeliefForge forge = Check.forge("1 2 2 3 3 3 3 3 3 3 4 4 4");
        forge.smooth(1, 1.0);
        double a = 1.0 / 13;
        double b = 2.0 / 13;
        double c = 7.0 / 13;
        double d = 3.0 / 13;
        due(1.0 * a * b * c * d, forge, 5, 4, 1, 0, 1, 1, 0, 2, 1, 0, 3, 1, 0, 4, 1);
        due(1.0 - 1.0 * (1.0 - a) * (1.0 - b) * (1.0 - c) * (1.0 - d), forge, 6, 4, 1, 0, 1, 1, 0, 2, 1, 0, 3, 1, 0, 4, 1);
        due((0.0 + 0.7 * a + 0.1 * b + 0.3 * c + 7.3 * d) / (0.0 + 0.7 + 0.1 + 0.3 + 7.3),
                forge, 9, 4, 1, 0, 1, 0.7, 0, 2, 0.1, 0, 3, 0.3, 0, 4, 7.3);
    }
}
