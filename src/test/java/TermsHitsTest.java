/** The document's terms: HITS of the NODES 0 to 4, TF and CF. */
final class TermsHitsTest {
    /** The first and the last of 24 places. */
    private static final String FAR = "1" + " 0".repeat(22) + " 2";

    public static void main(String[] args) {
        terms();
        titles();
        any();
        waysFromTheFirst();
        waysGoBehind();
        waysAreAtMostAFurther();
        waysTakeTheNearest();
        waysOfOneToFour();
        aroundOneOfItsTerms();
        aroundEachOfThem();
        aroundAPlacesFromThatOneOn();
        aroundOfEqualTerms();
        windowsStayInTheirDocument();
        sumsOfAllDocuments();
        Check.end();
    }

    private static void due(int hits, String text, double... query) {
        BeliefForge forge = Check.forge(text);
        Check.query(forge, query);
        Check.same("hits of " + java.util.Arrays.toString(query) + " in " + text, hits, forge.hits(0, 0));
    }

    private static void terms() {
        Check.sentence("TERM: the places at which the WORD stands.");
        due(3, "1 2|1 3 1", 0, 1, 1);
        due(1, "1 2|1 3 1", 0, 3, 1);
        due(0, "1 2|1 3 1", 0, 9, 1);
        due(0, "", 0, 0, 1);
        due(1, "0", 0, 0, 1);
        due(0, "1", 0, 0, 1);
        due(1, FAR, 0, 1, 1);
        due(1, FAR, 0, 2, 1);
        due(22, FAR, 0, 0, 1);
        due(24, "15" + " 15".repeat(23), 0, 15, 1);
    }

    private static void titles() {
        Check.sentence("TITLE: those of the TITLE.");
        due(1, "1 2|1 3 1", 1, 1, 1);
        due(1, "1 2|1 3 1", 1, 2, 1);
        due(0, "1 2|1 3 1", 1, 3, 1);
        due(0, "1 2", 1, 1, 1);
        due(2, "1 1|1", 1, 1, 1);
        due(3, "1 1 1|", 1, 1, 1);
        due(0, "", 1, 0, 1);
        due(1, FAR + "|", 1, 2, 1);
    }

    private static void any() {
        Check.sentence("ANY: those of all its TERMS (each place once).");
        due(4, "1 2 3 1 2", 4, 0, 2, 0, 1, 1, 0, 2, 1);
        due(5, "1 2 3 1 2", 4, 0, 4, 0, 1, 1, 0, 2, 1, 0, 3, 1, 0, 4, 1);
        due(1, "1 2 3 1 2", 4, 0, 1, 0, 3, 1);
        due(0, "1 2 3 1 2", 4, 0, 2, 0, 8, 1, 0, 9, 1);
        due(2, "1 2 3 1 2", 4, 0, 2, 0, 1, 1, 0, 1, 1);
        due(2, "1 2 3 1 2", 4, 0, 4, 0, 1, 1, 0, 1, 1, 0, 1, 1, 0, 1, 1);
        due(3, "1 2 3 1 2", 4, 0, 4, 0, 3, 1, 0, 1, 1, 0, 3, 1, 0, 1, 1);
        due(24, "1" + " 1".repeat(23), 4, 0, 2, 0, 1, 1, 0, 1, 1);
    }

    private static void waysFromTheFirst() {
        Check.sentence("NEAR: the places of its first TERM from which a way goes");
        // one HIT for each place of the first, though both ways end at the same second
        due(2, "1 1 2", 2, 2, 2, 0, 1, 1, 0, 2, 1);
        // one HIT, though there are two of the second
        due(1, "1 2 2", 2, 2, 2, 0, 1, 1, 0, 2, 1);
        due(0, "2 2", 2, 2, 2, 0, 1, 1, 0, 2, 1);
        due(2, "1 1 2 3", 2, 2, 3, 0, 1, 1, 0, 2, 1, 0, 3, 1);
    }

    private static void waysGoBehind() {
        Check.sentence("to the nearest place behind that of its second TERM");
        due(0, "2 1", 2, 24, 2, 0, 1, 1, 0, 2, 1);
        due(1, "2 1 2", 2, 1, 2, 0, 1, 1, 0, 2, 1);
        // a place is not behind itself
        due(0, "1", 2, 24, 2, 0, 1, 1, 0, 1, 1);
        due(1, "1 1", 2, 24, 2, 0, 1, 1, 0, 1, 1);
        due(2, "1 1 1", 2, 1, 2, 0, 1, 1, 0, 1, 1);
        due(1, "1 1 1", 2, 1, 3, 0, 1, 1, 0, 1, 1, 0, 1, 1);
        due(0, "1 1 1", 2, 24, 4, 0, 1, 1, 0, 1, 1, 0, 1, 1, 0, 1, 1);
        // the third stands before the second
        due(0, "1 3 2", 2, 24, 3, 0, 1, 1, 0, 2, 1, 0, 3, 1);
        due(0, "3 1 2", 2, 24, 3, 0, 1, 1, 0, 2, 1, 0, 3, 1);
    }

    private static void waysAreAtMostAFurther() {
        Check.sentence("at most a further, from that to the nearest one of the third, at most a further, and so on");
        for (int gap = 1; gap <= 23; gap++) {
            String text = "1" + " 0".repeat(gap - 1) + " 2";
            due(1, text, 2, gap, 2, 0, 1, 1, 0, 2, 1);
            due(1, text, 2, gap + 1, 2, 0, 1, 1, 0, 2, 1);
            if (gap > 1) {
                due(0, text, 2, gap - 1, 2, 0, 1, 1, 0, 2, 1);
            }
        }
        due(1, FAR, 2, 24, 2, 0, 1, 1, 0, 2, 1);
        // each step is measured from the one before, not from the first
        due(1, "1 0 2 0 3 0 4", 2, 2, 4, 0, 1, 1, 0, 2, 1, 0, 3, 1, 0, 4, 1);
        due(0, "1 0 0 2 0 3 0 4", 2, 2, 4, 0, 1, 1, 0, 2, 1, 0, 3, 1, 0, 4, 1);
        due(0, "1 0 2 0 0 3 0 4", 2, 2, 4, 0, 1, 1, 0, 2, 1, 0, 3, 1, 0, 4, 1);
        due(0, "1 0 2 0 3 0 0 4", 2, 2, 4, 0, 1, 1, 0, 2, 1, 0, 3, 1, 0, 4, 1);
        due(0, "1 0 2 0 3", 2, 24, 4, 0, 1, 1, 0, 2, 1, 0, 3, 1, 0, 4, 1);
    }

    private static void waysTakeTheNearest() {
        Check.sentence("to the nearest place behind that of its second TERM");
        // over the nearest 2, though a later 2 would be near enough to the 3
        due(0, "1 2 2 0 3", 2, 2, 3, 0, 1, 1, 0, 2, 1, 0, 3, 1);
        due(1, "1 2 2 0 3", 2, 3, 3, 0, 1, 1, 0, 2, 1, 0, 3, 1);
        due(0, "1 2 3 3 0 4", 2, 2, 4, 0, 1, 1, 0, 2, 1, 0, 3, 1, 0, 4, 1);
    }

    private static void waysOfOneToFour() {
        Check.sentence("NEAR: the places of its first TERM from which a way goes");
        due(3, "1 1 1", 2, 1, 1, 0, 1, 1);
        due(2, "1 2 1 3 2", 2, 2, 2, 0, 1, 1, 0, 2, 1);
        due(1, "1 2 1 3 2", 2, 1, 2, 0, 1, 1, 0, 2, 1);
        due(1, "1 2 3", 2, 1, 3, 0, 1, 1, 0, 2, 1, 0, 3, 1);
        due(1, "1 2 3 4", 2, 1, 4, 0, 1, 1, 0, 2, 1, 0, 3, 1, 0, 4, 1);
    }

    private static void aroundOneOfItsTerms() {
        Check.sentence("AROUND: the places at which one of its TERMS stands");
        due(1, "1 2 0 0 1", 3, 2, 2, 0, 1, 1, 0, 2, 1);
        due(1, "2 1 0 0 1", 3, 2, 2, 0, 1, 1, 0, 2, 1);
        // place 0 has all within reach, but is none of them
        due(1, "0 1 2", 3, 3, 2, 0, 1, 1, 0, 2, 1);
        due(3, "1 2 1 2", 3, 2, 2, 0, 1, 1, 0, 2, 1);
        due(1, "0 1 2 3", 3, 3, 3, 0, 1, 1, 0, 2, 1, 0, 3, 1);
        due(3, "0 4 3 2 1 1 4 3", 3, 5, 4, 0, 1, 1, 0, 2, 1, 0, 3, 1, 0, 4, 1);
    }

    private static void aroundEachOfThem() {
        Check.sentence("and each of them stands at one of the a places from that one on");
        due(0, "0 1 2", 3, 24, 3, 0, 1, 1, 0, 2, 1, 0, 3, 1);
        due(0, "1 1 1", 3, 24, 2, 0, 1, 1, 0, 2, 1);
        due(0, "2 2 2", 3, 24, 2, 0, 1, 1, 0, 2, 1);
        due(1, "1 2", 3, 24, 2, 0, 1, 1, 0, 2, 1);
        // at place 1 the 1 stands before, not from there on
        due(1, "1 2", 3, 2, 2, 0, 2, 1, 0, 1, 1);
        due(1, "0 4 3 2 1 1 4 3", 3, 4, 4, 0, 1, 1, 0, 2, 1, 0, 3, 1, 0, 4, 1);
        due(0, "", 3, 24, 2, 0, 1, 1, 0, 2, 1);
    }

    private static void aroundAPlacesFromThatOneOn() {
        Check.sentence("and each of them stands at one of the a places from that one on");
        for (int gap = 1; gap <= 23; gap++) {
            String text = "1" + " 0".repeat(gap - 1) + " 2";
            due(1, text, 3, gap + 1, 2, 0, 1, 1, 0, 2, 1);
            due(0, text, 3, gap, 2, 0, 1, 1, 0, 2, 1);
        }
        due(0, "1 2 1 2", 3, 1, 2, 0, 1, 1, 0, 2, 1);
        due(2, "1 2 1 2", 3, 1, 1, 0, 1, 1);
        due(2, "1 0 2 1", 3, 3, 2, 0, 1, 1, 0, 2, 1);
        due(1, "1 0 2 1", 3, 2, 2, 0, 1, 1, 0, 2, 1);
    }

    private static void aroundOfEqualTerms() {
        Check.sentence("and each of them stands at one of the a places from that one on");
        due(2, "1 2 1 2", 3, 1, 2, 0, 1, 1, 0, 1, 1);
        due(2, "1 2 1 2", 3, 1, 4, 0, 1, 1, 0, 1, 1, 0, 1, 1, 0, 1, 1);
        due(1, "1 2 0 2", 3, 2, 3, 0, 1, 1, 0, 2, 1, 0, 1, 1);
    }

    private static void windowsStayInTheirDocument() {
        Check.sentence("HITS of a NODE 0 to 4 in a DOCUMENT");
        BeliefForge forge = Check.forge("1 1", "2 2");
        for (double kind = 2; kind <= 3; kind++) {
            Check.query(forge, kind, 24, 2, 0, 1, 1, 0, 2, 1);
            Check.same("hits in document 0", 0, forge.hits(0, 0));
            Check.same("hits in document 1", 0, forge.hits(0, 1));
        }
        Check.query(forge, 4, 1, 2, 0, 1, 1, 0, 2, 1);
        Check.same("hits of ANY in document 0", 2, forge.hits(0, 0));
    }

    /** With SMOOTHING 1 and mu 1 the BELIEF is CF / ALL. */
    private static void sumsOfAllDocuments() {
        Check.sentence("TF is how many HITS, CF the sum of TF of all DOCUMENTS.");
        BeliefForge forge = Check.forge("1 2|1 2", "", "2 1 1 2|1", "5 5 5", "1 2 1 2|1 2");
        forge.smooth(1, 1.0);
        double[][] queries = {
            {0, 1, 1}, {1, 1, 1}, {2, 1, 2, 0, 1, 1, 0, 2, 1}, {3, 2, 2, 0, 1, 1, 0, 2, 1}, {4, 0, 2, 0, 1, 1, 0, 2, 1},
        };
        for (double[] query : queries) {
            Check.query(forge, query);
            int sum = 0;
            for (int d = 0; d < 5; d++) {
                sum += forge.hits(0, d);
            }
            for (int d : new int[] {0, 2, 3, 4}) {
                Check.same("belief(" + d + "), which is CF / ALL", sum / 18.0, forge.belief(d));
            }
        }
    }
}
