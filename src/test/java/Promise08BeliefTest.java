/** Promise 8: belief. */
final class Promise08BeliefTest {
    /** With SMOOTHING 1 and mu 1 the BELIEF in a TERM is CF / ALL: 1/2, 1/4 and 1/8 for these WORDS. */
    private static final String EIGHTHS = "1 1 1 1 2 2 3 4";

    public static void main(String[] args) {
        smoothedBeliefs();
        neverSeenWords();
        windowsAndTitles();
        productsAndGreatest();
        means();
        edgesOfLgAndEx();
        points();
        weightsOfNodes();
        fullQueries();
        leftOut();
        leftOutWhereverItStands();
        wrongOnes();
        beliefsFollowTheDocuments();
        Check.end();
    }

    private static void due(double belief, BeliefForge forge, double... query) {
        Check.query(forge, query);
        Check.same("belief(0) in " + java.util.Arrays.toString(query), belief, forge.belief(0));
    }

    private static BeliefForge eighths() {
        BeliefForge forge = Check.forge(EIGHTHS);
        forge.smooth(1, 1.0);
        return forge;
    }

    private static void smoothedBeliefs() {
        BeliefForge forge = Check.forge("1 2 3", "1 1 4 5 6 7 8", "");
        due((1 + 2.0 * (3.0 / 10)) / (3 + 2.0), forge, 0, 1, 1);
        Check.same("belief(1)", (2 + 2.0 * (3.0 / 10)) / (7 + 2.0), forge.belief(1));
        forge.smooth(1, 0.1);
        due((1 - 0.1) * (1.0 / 3) + 0.1 * (3.0 / 10), forge, 0, 1, 1);
        Check.same("belief(1) by 1", (1 - 0.1) * (2.0 / 7) + 0.1 * (3.0 / 10), forge.belief(1));
    }

    private static void neverSeenWords() {
        BeliefForge forge = Check.forge("1 2 3", "4 4 4 4");
        due((0 + 2.0 * (0.5 / 7)) / (3 + 2.0), forge, 0, 9, 1);
        due((0 + 2.0 * (4.0 / 7)) / (3 + 2.0), forge, 0, 4, 1);
        forge.smooth(1, 0.4);
        due((1 - 0.4) * (0.0 / 3) + 0.4 * (0.5 / 7), forge, 0, 9, 1);
    }

    private static void windowsAndTitles() {
        BeliefForge forge = Check.forge("1 2|3 1 2", "2 1 2|1", "5 5 5");
        due((1 + 2.0 * (2.0 / 12)) / (5 + 2.0), forge, 1, 1, 1);
        due((2 + 2.0 * (3.0 / 12)) / (5 + 2.0), forge, 2, 1, 2, 0, 1, 1, 0, 2, 1);
        due((2 + 2.0 * (5.0 / 12)) / (5 + 2.0), forge, 3, 2, 2, 0, 1, 1, 0, 2, 1);
        due((4 + 2.0 * (8.0 / 12)) / (5 + 2.0), forge, 4, 0, 2, 0, 1, 1, 0, 2, 1);
        due((0 + 2.0 * (0.5 / 12)) / (5 + 2.0), forge, 1, 3, 1);
    }

    private static void productsAndGreatest() {
        BeliefForge forge = eighths();
        due(0.5, forge, 5, 1, 1, 0, 1, 1);
        due(0.5 * 0.25 * 0.125, forge, 5, 3, 1, 0, 1, 1, 0, 2, 1, 0, 3, 1);
        due(0.5 * 0.5 * 0.25 * 0.125, forge, 5, 4, 1, 0, 1, 1, 0, 1, 1, 0, 2, 1, 0, 3, 1);
        due(1 - 0.5 * 0.75 * 0.875, forge, 6, 3, 1, 0, 1, 1, 0, 2, 1, 0, 3, 1);
        due(0.25, forge, 6, 1, 1, 0, 2, 1);
        due(0.5, forge, 7, 3, 1, 0, 2, 1, 0, 1, 1, 0, 3, 1);
        due(0.5, forge, 7, 2, 1, 0, 2, 1, 0, 1, 1);
        due(0.5, forge, 7, 2, 1, 0, 1, 1, 0, 2, 1);
        due(0.125, forge, 7, 1, 1, 0, 3, 1);
        due(0.75, forge, 10, 0, 1, 0, 2, 1);
        due(1 - (1 - 0.25) * 0.5, forge, 10, 0, 1, 5, 2, 1, 10, 0, 1, 0, 2, 1, 0, 1, 1);
        stepsGoFromTheFirstOn();
    }

    /** Other orders of these steps give other last bits. */
    private static void stepsGoFromTheFirstOn() {
        BeliefForge forge = Check.forge("1 2 2 3 3 3 3 3 3 3 4 4 4");
        forge.smooth(1, 1.0);
        double a = 1.0 / 13;
        double b = 2.0 / 13;
        double c = 7.0 / 13;
        double d = 3.0 / 13;
        due(1.0 * a * b * c * d, forge, 5, 4, 1, 0, 1, 1, 0, 2, 1, 0, 3, 1, 0, 4, 1);
        due(1.0 - 1.0 * (1.0 - a) * (1.0 - b) * (1.0 - c) * (1.0 - d), forge, 6, 4, 1, 0, 1, 1, 0, 2, 1, 0, 3, 1, 0, 4, 1);
        due((0.0 + 0.7 * a + 0.1 * b + 0.3 * c + 7.3 * d) / (0.0 + 0.7 + 0.1 + 0.3 + 7.3),
                forge, 9, 4, 1, 0, 1, 0.7, 0, 2, 0.1, 0, 3, 0.3, 0, 4, 7.3);
    }

    private static void means() {
        BeliefForge forge = eighths();
        // LG: -1, -2, -3
        due(0.375, forge, 8, 2, 1, 0, 1, 3, 0, 3, 1);
        due(0.1875, forge, 8, 2, 1, 0, 1, 1, 0, 3, 3);
        due(0.25, forge, 8, 3, 1, 0, 1, 2, 0, 2, 5, 0, 3, 2);
        due(0.5, forge, 8, 1, 1, 0, 1, 0.1);
        // LG of 3/4 is -1 + 0.5, that of 7/8 is -1 + 0.75
        due(0.75, forge, 8, 1, 1, 10, 0, 1, 0, 2, 1);
        due(0.8125, forge, 8, 2, 1, 10, 0, 1, 0, 2, 1, 10, 0, 1, 0, 3, 1);
        // (-0.5 - 3) / 2 is -1.75
        due(0.3125, forge, 8, 2, 1, 10, 0, 7, 0, 2, 1, 0, 3, 7);
        // EX of (0.3 * -1 + 0.1 * -3) / (0.3 + 0.1), step by step
        double v = (0.0 + 0.3 * -1.0 + 0.1 * -3.0) / (0.0 + 0.3 + 0.1);
        due((1 + (v + 2)) / 4, forge, 8, 2, 1, 0, 1, 0.3, 0, 3, 0.1);
    }

    private static void edgesOfLgAndEx() {
        BeliefForge certain = Check.forge("1");
        certain.smooth(1, 1.0);
        due(1.0, certain, 8, 1, 1, 0, 1, 1);
        due(0.0, certain, 8, 1, 1, 10, 0, 1, 0, 1, 1);
        // LG 0 and LG -60, for the NOT has a BELIEF of 0
        due(Math.scalb(1.0, -30), certain, 8, 2, 1, 0, 1, 1, 10, 0, 1, 0, 1, 1);
        due(Math.scalb(1.0, -15), certain, 8, 2, 1, 0, 1, 3, 10, 0, 1, 0, 1, 1);
        // The BELIEF of DOCUMENT 0 in TERM 2 is mu / 2
        BeliefForge forge = Check.forge("1", "2");
        forge.smooth(1, Math.scalb(1.0, -59));
        due(Math.scalb(1.0, -60), forge, 0, 2, 1);
        due(0.0, forge, 8, 1, 1, 0, 2, 1);
        forge.smooth(1, Math.scalb(1.5, -59));
        due(Math.scalb(1.5, -60), forge, 8, 1, 1, 0, 2, 1);
        forge.smooth(1, Math.scalb(1.0, -58));
        due(Math.scalb(1.0, -59), forge, 8, 1, 1, 0, 2, 1);
        forge.smooth(1, Double.MIN_VALUE);
        due(0.0, forge, 8, 1, 1, 0, 2, 1);
        // LG is never below -60: here 0 and -60, though the second BELIEF is 2 to the power of -70
        forge.smooth(1, Math.scalb(1.0, -69));
        due(Math.scalb(1.0, -30), forge, 8, 2, 1, 0, 1, 1, 0, 2, 1);
        // LG just above -60 is rounded to -60, for it has 6 bits less
        forge.smooth(1, Math.scalb(Math.nextUp(1.0), -59));
        due(0.0, forge, 8, 1, 1, 0, 2, 1);
    }

    private static void points() {
        BeliefForge forge = eighths();
        due(0.40625, forge, 9, 2, 1, 0, 1, 3, 0, 3, 1);
        due(0.21875, forge, 9, 2, 1, 0, 1, 1, 0, 3, 3);
        due(0.5, forge, 9, 1, 1, 0, 1, 0.5);
        due((0.0 + 0.3 * 0.5 + 0.1 * 0.125) / (0.0 + 0.3 + 0.1), forge, 9, 2, 1, 0, 1, 0.3, 0, 3, 0.1);
        due(0.0 / Double.MIN_VALUE, forge, 9, 1, 1, 0, 1, Double.MIN_VALUE);
    }

    private static void weightsOfNodes() {
        BeliefForge forge = eighths();
        // ANY of two TERMS has the WEIGHT 2, whatever those of its TERMS are
        due((2 * 0.75 + 6 * 0.125) / 8, forge, 9, 2, 9, 4, 0, 2, 0, 1, 50, 0, 2, 60, 0, 3, 6);
        // the w of an operator is its WEIGHT in the one around it
        due((3 * 0.125 + 1 * 0.5) / 4, forge, 9, 2, 9, 5, 2, 3, 0, 1, 50, 0, 2, 60, 0, 1, 1);
        due((1 * 0.125 + 3 * 0.5) / 4, forge, 9, 2, 9, 11, 0, 1, 0, 1, 50, 0, 3, 60, 0, 1, 3);
    }

    private static void fullQueries() {
        BeliefForge forge = eighths();
        double[] nots = new double[24 * 3];
        for (int t = 0; t < 24; t++) {
            nots[3 * t] = t < 23 ? 10 : 0;
            nots[3 * t + 1] = 2;
            nots[3 * t + 2] = 1;
        }
        due(0.75, forge, nots);
        Check.same("hits of TOKEN 23", 2, forge.hits(23, 0));
        nots[0] = 6;
        nots[1] = 1;
        due(0.25, forge, nots);
    }

    private static void leftOut() {
        BeliefForge forge = Check.forge("1 2 3|", "2 3 4 1|1", "5 5");
        Check.query(forge, 11, 0, 1, 0, 1, 1, 0, 2, 1);
        Check.same("belief(0) in MUST", (1 + 2.0 * (2.0 / 10)) / (3 + 2.0), forge.belief(0));
        Check.missing("belief(2) in MUST", () -> forge.belief(2));
        Check.query(forge, 11, 0, 1, 2, 1, 2, 0, 1, 1, 0, 2, 1, 0, 5, 1);
        Check.same("belief(0) in MUST NEAR", (0 + 2.0 * (2.0 / 10)) / (3 + 2.0), forge.belief(0));
        Check.missing("belief(1) in MUST NEAR", () -> forge.belief(1));
        Check.query(forge, 11, 0, 1, 1, 5, 1, 0, 5, 1);
        for (int d = 0; d < 3; d++) {
            int doc = d;
            Check.missing("belief(" + d + ") in MUST TITLE", () -> forge.belief(doc));
        }
        beliefsAboveOneHalf();
    }

    private static void beliefsAboveOneHalf() {
        BeliefForge forge = eighths();
        Check.query(forge, 11, 0, 1, 5, 1, 1, 0, 1, 1, 0, 2, 1);
        Check.missing("a BELIEF of 0.5 is not above it", () -> forge.belief(0));
        due(0.25, forge, 11, 0, 1, 10, 0, 1, 0, 2, 1, 0, 2, 1);
        // a TERM needs HITS alone, its BELIEF may be low
        due(0.25, forge, 11, 0, 1, 0, 3, 1, 0, 2, 1);
        forge.smooth(1, Math.nextDown(1.0));
        due(0.25, forge, 11, 0, 1, 6, 2, 1, 0, 1, 1, 0, 3, 1, 0, 2, 1);
    }

    private static void leftOutWhereverItStands() {
        BeliefForge forge = Check.forge("1 2");
        // MUST 9 inside of NOT, as the first and the second of a MUST, as a later part
        double[][] queries = {
            {10, 0, 1, 11, 0, 1, 0, 9, 1, 0, 1, 1},
            {11, 0, 1, 10, 0, 1, 11, 0, 1, 0, 9, 1, 0, 9, 1, 0, 1, 1},
            {11, 0, 1, 0, 1, 1, 11, 0, 1, 0, 9, 1, 0, 1, 1},
            {7, 3, 1, 0, 1, 1, 0, 2, 1, 11, 0, 1, 0, 9, 1, 0, 1, 1},
        };
        for (double[] query : queries) {
            Check.query(forge, query);
            Check.missing("belief(0) in " + java.util.Arrays.toString(query), () -> forge.belief(0));
        }
        // its second NODE has no hits, but that is not asked for
        due((0 + 2.0 * (0.5 / 2)) / (2 + 2.0), forge, 11, 0, 1, 0, 1, 1, 0, 9, 1);
    }

    private static void wrongOnes() {
        BeliefForge forge = Check.forge("1 2", "");
        for (int d : new int[] {-1, 1, 2, 12, Integer.MIN_VALUE, Integer.MAX_VALUE}) {
            Check.index("belief(" + d + ") in an empty query", () -> forge.belief(d));
        }
        Check.state("belief(0) in an empty query", () -> forge.belief(0));
        forge.token(11, 0, 1.0);
        forge.token(0, 9, 1.0);
        Check.state("belief(0) in a part of a query", () -> forge.belief(0));
        forge.token(0, 1, 1.0);
        Check.missing("belief(0)", () -> forge.belief(0));
        Check.index("belief(1), without words", () -> forge.belief(1));
        forge.word(9);
        Check.same("belief(1), with a word", (0 + 2.0 * (1.0 / 3)) / (1 + 2.0), forge.belief(1));
    }

    private static void beliefsFollowTheDocuments() {
        BeliefForge forge = Check.forge("1 2");
        due((1 + 2.0 * (1.0 / 2)) / (2 + 2.0), forge, 0, 1, 1);
        Check.add(forge, "1 1 5");
        Check.same("belief(0) with more documents", (1 + 2.0 * (3.0 / 5)) / (2 + 2.0), forge.belief(0));
        forge.search(1);
        Check.same("belief(0) after a search", (1 + 2.0 * (3.0 / 5)) / (2 + 2.0), forge.belief(0));
    }
}
