/** The document's terms: QUERIES, TOKENS and NODES. */
final class TermsQueryTest {
    public static void main(String[] args) {
        twentyFourTokens();
        wholeIfJustOneNode();
        windowsOfOneToFour();
        operatorsOfOneToFour();
        anyNodesInOperators();
        theWeightIsThatOfTheFirstToken();
        otherwiseWIsNotLookedAt();
        notAndMust();
        Check.end();
    }

    /** With SMOOTHING 1 and mu 1 the BELIEF in a TERM is CF / ALL: 1/2, 1/4, 1/8 and 1/8 for these WORDS. */
    private static BeliefForge eighths() {
        BeliefForge forge = Check.forge("1 1 1 1 2 2 3 4");
        forge.smooth(1, 1.0);
        return forge;
    }

    private static void due(double belief, BeliefForge forge, double... query) {
        Check.query(forge, query);
        Check.same("belief(0) in " + java.util.Arrays.toString(query), belief, forge.belief(0));
    }

    private static void twentyFourTokens() {
        Check.sentence("A QUERY is a row of at most 24 TOKENS (kind, a, w), parents before their parts");
        BeliefForge forge = eighths();
        double[] nots = new double[24 * 3];
        for (int t = 0; t < 24; t++) {
            nots[3 * t] = t < 23 ? 10 : 0;
            nots[3 * t + 1] = 2;
            nots[3 * t + 2] = 1;
        }
        due(0.75, forge, nots);
        Check.same("hits of TOKEN 23", 2, forge.hits(23, 0));
        Check.same("search(1)", 1, forge.search(1));
        nots[0] = 6;
        nots[1] = 1;
        due(0.25, forge, nots);
        aWideOne(forge);
    }

    /** MAX of 4, 3 of which are MAX of 4 and one of 4 with another one inside: 1 + 4 + 16 + 3 TOKENS. */
    private static void aWideOne(BeliefForge forge) {
        forge.clear();
        forge.token(7, 4, 1.0);
        for (int i = 0; i < 4; i++) {
            forge.token(7, 4, 1.0);
            forge.token(0, 3, 1.0);
            forge.token(0, 4, 1.0);
            forge.token(0, 3, 1.0);
            if (i == 3) {
                forge.token(7, 3, 1.0);
                forge.token(0, 4, 1.0);
                forge.token(0, 3, 1.0);
                forge.token(0, 2, 1.0);
            } else {
                forge.token(0, 4, 1.0);
            }
        }
        Check.same("tokens", 24, forge.count(2));
        Check.same("wanted", 0, forge.wanted());
        Check.same("belief(0), that in the last token", 0.25, forge.belief(0));
    }

    private static void wholeIfJustOneNode() {
        Check.sentence("it is WHOLE if it is just one NODE");
        BeliefForge forge = eighths();
        double[][] tokens = {{5, 2, 1}, {10, 0, 1}, {2, 1, 2}, {0, 1, 1}, {0, 2, 1}, {11, 0, 1}, {0, 1, 1}, {1, 1, 1}};
        for (double[] token : tokens) {
            Check.state("belief(0) before it is whole", () -> forge.belief(0));
            Check.state("search(1) before it is whole", () -> forge.search(1));
            forge.token((int) token[0], (int) token[1], token[2]);
        }
        Check.same("belief(0) of the whole", (1 - 1.0 / 8) * (0.5 / 8), forge.belief(0));
        Check.state("a token more", () -> forge.token(0, 1, 1.0));
    }

    private static void windowsOfOneToFour() {
        Check.sentence("the NODES behind, 1 to 4, as many as w, all TERMS");
        String text = "1 2 3 4 1 2 3 1 2 1";
        int[] ways = {4, 3, 2, 1};
        int[] around = {4, 6, 6, 4};
        int[] any = {4, 7, 9, 10};
        for (int terms = 1; terms <= 4; terms++) {
            Check.same("NEAR 1 of " + terms, ways[terms - 1], hitsOfWindow(text, 2, 1, terms));
            Check.same("AROUND 4 of " + terms, around[terms - 1], hitsOfWindow(text, 3, 4, terms));
            Check.same("ANY of " + terms, any[terms - 1], hitsOfWindow(text, 4, 1, terms));
        }
    }

    /** The window of the TERMS 1, 2, .. is followed by another NODE, which is none of its TERMS. */
    private static int hitsOfWindow(String text, int kind, int a, int terms) {
        BeliefForge forge = Check.forge(text);
        forge.token(5, 2, 1.0);
        forge.token(kind, a, terms);
        for (int term = 1; term <= terms; term++) {
            forge.token(0, term, 1.0);
        }
        Check.same("wanted behind the window", 1, forge.wanted());
        forge.token(0, 9, 1.0);
        return forge.hits(1, 0);
    }

    private static void operatorsOfOneToFour() {
        Check.sentence("as many NODES as a (1 to 4), any");
        BeliefForge forge = eighths();
        double[] each = {0.125, 0.25, 0.125, 0.5};
        int[] words = {3, 2, 4, 1};
        for (int parts = 1; parts <= 4; parts++) {
            double product = 1.0;
            double doubts = 1.0;
            double greatest = 0.0;
            double sum = 0.0;
            double lgs = 0.0;
            double[] query = new double[3 + 3 * parts];
            for (int i = 0; i < parts; i++) {
                product *= each[i];
                doubts *= 1 - each[i];
                greatest = Math.max(greatest, each[i]);
                sum += each[i];
                lgs += Math.getExponent(each[i]);
                query[3 + 3 * i + 1] = words[i];
                query[3 + 3 * i + 2] = 1;
            }
            double v = lgs / parts;
            double mean = Math.scalb(1 + (v - Math.floor(v)), (int) Math.floor(v));
            double[] dues = {product, 1 - doubts, greatest, mean, sum / parts};
            for (int kind = 5; kind <= 9; kind++) {
                query[0] = kind;
                query[1] = parts;
                query[2] = 1;
                due(dues[kind - 5], forge, query);
            }
        }
    }

    private static void anyNodesInOperators() {
        Check.sentence("as many NODES as a (1 to 4), any");
        double[][] nodes = {
            {0, 2, 1}, {1, 2, 1}, {2, 1, 2, 0, 1, 1, 0, 2, 1}, {3, 2, 2, 0, 1, 1, 0, 2, 1}, {4, 0, 2, 0, 2, 1, 0, 3, 1},
            {5, 1, 1, 0, 2, 1}, {6, 1, 1, 0, 2, 1}, {7, 2, 1, 0, 3, 1, 0, 2, 1}, {8, 1, 1, 0, 2, 1}, {9, 1, 1, 0, 2, 1},
            {10, 0, 1, 0, 2, 1}, {11, 0, 1, 0, 1, 1, 0, 2, 1},
        };
        for (double[] node : nodes) {
            BeliefForge forge = eighths();
            Check.query(forge, node);
            double alone = forge.belief(0);
            for (int kind = 5; kind <= 9; kind++) {
                double[] query = new double[3 + node.length];
                query[0] = kind;
                query[1] = 1;
                query[2] = 1;
                System.arraycopy(node, 0, query, 3, node.length);
                due(kind == 6 ? 1 - (1 - alone) : kind == 9 ? 1.0 * alone * node[2] / node[2] : alone, forge, query);
            }
        }
    }

    private static void theWeightIsThatOfTheFirstToken() {
        Check.sentence("of MEAN and POINT each has a WEIGHT, the w of its first TOKEN");
        BeliefForge forge = eighths();
        // ANY of two TERMS has the WEIGHT 2, whatever those of its TERMS are
        due((2 * 0.75 + 6 * 0.125) / 8, forge, 9, 2, 9, 4, 0, 2, 0, 1, 50, 0, 2, 60, 0, 3, 6);
        due((3 * 0.125 + 1 * 0.5) / 4, forge, 9, 2, 9, 5, 2, 3, 0, 1, 50, 0, 2, 60, 0, 1, 1);
        due((1 * 0.125 + 3 * 0.5) / 4, forge, 9, 2, 9, 11, 0, 1, 0, 1, 50, 0, 3, 60, 0, 1, 3);
        due((0.5 * 0.75 + 1.5 * 0.125) / 2, forge, 9, 2, 9, 10, 0, 0.5, 0, 2, 50, 0, 3, 1.5);
        // LG -3 with WEIGHT 3, LG -1 with WEIGHT 1: EX of -2.5
        due(0.1875, forge, 8, 2, 9, 5, 2, 3, 0, 1, 50, 0, 2, 60, 0, 1, 1);
        // a NEAR of one TERM has the WEIGHT 1: LG -1 with 1, LG -3 with 3
        due(0.1875, forge, 8, 2, 9, 2, 5, 1, 0, 1, 77, 0, 3, 3);
        // an AROUND of two has the WEIGHT 2: LG -3 with 2, LG -1 with 2
        due(0.25, forge, 8, 2, 9, 3, 2, 2, 0, 2, 77, 0, 3, 88, 0, 1, 2);
    }

    private static void otherwiseWIsNotLookedAt() {
        Check.sentence("(for others w is not looked at, but for 2 to 4)");
        BeliefForge forge = eighths();
        for (double w : new double[] {Double.MIN_VALUE, 0.1, 1, 2, 3, 7.7, 100}) {
            due(0.25, forge, 0, 2, w);
            due(0.5 * 0.25, forge, 5, 2, w, 0, 1, w, 0, 2, 1);
            due(1 - 0.5 * 0.75, forge, 6, 2, w, 0, 1, w, 0, 2, 1);
            due(0.5, forge, 7, 2, w, 0, 2, w, 0, 1, 1);
            due(0.75, forge, 10, 0, w, 0, 2, w);
            due(0.25, forge, 11, 0, w, 0, 1, w, 0, 2, w);
            due(0.375, forge, 4, 0, 2, 0, 3, w, 0, 2, w);
            // the w of a MEAN or POINT itself is no WEIGHT of its parts
            due(0.25, forge, 8, 2, w, 0, 1, 2, 0, 3, 2);
            due(0.3125, forge, 9, 2, w, 0, 1, 2, 0, 3, 2);
        }
    }

    private static void notAndMust() {
        Check.sentence("10 NOT: one NODE.   11 MUST: two NODES.");
        BeliefForge forge = eighths();
        for (int a : new int[] {-3, 0, 1, 4, 9}) {
            forge.clear();
            forge.token(10, a, 1.0);
            Check.same("wanted behind NOT", 1, forge.wanted());
            forge.token(11, a, 1.0);
            Check.same("wanted behind MUST", 2, forge.wanted());
            forge.token(0, 1, 1.0);
            Check.same("wanted behind its first", 1, forge.wanted());
            forge.token(0, 2, 1.0);
            Check.same("wanted behind its second", 0, forge.wanted());
            Check.same("belief(0)", 0.75, forge.belief(0));
        }
    }
}
