import java.util.Arrays;

/** The document's terms: MUST, and the DOCUMENTS that are LEFT OUT. */
final class TermsMustTest {
    public static void main(String[] args) {
        theBeliefInTheSecond();
        ifTheFirstHasNoHits();
        hitsAreAskedForNotBeliefs();
        aBeliefNotAboveOneHalf();
        everyOperatorAsFirst();
        whereverThatStands();
        severalMusts();
        Check.end();
    }

    private static void due(double belief, BeliefForge forge, double... query) {
        Check.query(forge, query);
        Check.same("belief(0) in " + Arrays.toString(query), belief, forge.belief(0));
        forge.search(10);
        Check.same("found(0) for " + Arrays.toString(query), 1, isFound(forge) ? 1 : 0);
    }

    private static void leftOut(BeliefForge forge, double... query) {
        Check.query(forge, query);
        Check.missing("belief(0) in " + Arrays.toString(query), () -> forge.belief(0));
        forge.search(10);
        Check.same("found(0) for " + Arrays.toString(query), 0, isFound(forge) ? 1 : 0);
    }

    private static boolean isFound(BeliefForge forge) {
        for (int k = 0; k < forge.count(3); k++) {
            if (forge.found(k) == 0) {
                return true;
            }
        }
        return false;
    }

    private static void theBeliefInTheSecond() {
        Check.sentence("MUST: the BELIEF in the second");
        BeliefForge forge = Check.forge("1 2 2", "5");
        due((2 + 2.0 * (2.0 / 4)) / (3 + 2.0), forge, 11, 0, 1, 0, 1, 1, 0, 2, 1);
        // the second needs no HITS
        due((0 + 2.0 * (0.5 / 4)) / (3 + 2.0), forge, 11, 0, 1, 0, 1, 1, 0, 9, 1);
        due(1 - (2 + 2.0 * (2.0 / 4)) / (3 + 2.0), forge, 11, 0, 1, 0, 1, 1, 10, 0, 1, 0, 2, 1);
    }

    private static void ifTheFirstHasNoHits() {
        Check.sentence("but a DOCUMENT in which the first has no HITS");
        BeliefForge forge = Check.forge("1 2 0 3|4", "5 5 5 5 5|");
        double four = (1 + 2.0 * (1.0 / 10)) / (5 + 2.0);
        due(four, forge, 11, 0, 1, 0, 1, 1, 0, 4, 1);
        due(four, forge, 11, 0, 1, 1, 3, 1, 0, 4, 1);
        due(four, forge, 11, 0, 1, 2, 2, 2, 0, 2, 1, 0, 3, 1, 0, 4, 1);
        due(four, forge, 11, 0, 1, 3, 3, 2, 0, 3, 1, 0, 2, 1, 0, 4, 1);
        due(four, forge, 11, 0, 1, 4, 0, 2, 0, 5, 1, 0, 3, 1, 0, 4, 1);
        leftOut(forge, 11, 0, 1, 0, 5, 1, 0, 4, 1);
        leftOut(forge, 11, 0, 1, 1, 4, 1, 0, 4, 1);
        leftOut(forge, 11, 0, 1, 2, 1, 2, 0, 2, 1, 0, 3, 1, 0, 4, 1);
        leftOut(forge, 11, 0, 1, 3, 2, 2, 0, 3, 1, 0, 2, 1, 0, 4, 1);
        leftOut(forge, 11, 0, 1, 4, 0, 2, 0, 5, 1, 0, 6, 1, 0, 4, 1);
    }

    /** With SMOOTHING 1 and mu 1 DOCUMENT 0 believes in 5, which it has not, by 0.9, and in 1, which it has, by 0.1. */
    private static void hitsAreAskedForNotBeliefs() {
        Check.sentence("but a DOCUMENT in which the first has no HITS");
        BeliefForge forge = Check.forge("1|", "5 5 5 5 5 5 5 5 5|");
        forge.smooth(1, 1.0);
        due(0.9, forge, 0, 5, 1);
        leftOut(forge, 11, 0, 1, 0, 5, 1, 0, 1, 1);
        leftOut(forge, 11, 0, 1, 1, 5, 1, 0, 1, 1);
        leftOut(forge, 11, 0, 1, 2, 1, 1, 0, 5, 1, 0, 1, 1);
        leftOut(forge, 11, 0, 1, 3, 1, 1, 0, 5, 1, 0, 1, 1);
        leftOut(forge, 11, 0, 1, 4, 1, 1, 0, 5, 1, 0, 1, 1);
        due(0.1, forge, 11, 0, 1, 0, 1, 1, 0, 1, 1);
        due(0.1, forge, 11, 0, 1, 1, 1, 1, 0, 1, 1);
        due(0.1, forge, 11, 0, 1, 2, 1, 1, 0, 1, 1, 0, 1, 1);
        due(0.1, forge, 11, 0, 1, 3, 1, 1, 0, 1, 1, 0, 1, 1);
        due(0.1, forge, 11, 0, 1, 4, 1, 1, 0, 1, 1, 0, 1, 1);
        // for an operator it is the other way round
        due(0.1, forge, 11, 0, 1, 5, 1, 1, 0, 5, 1, 0, 1, 1);
        leftOut(forge, 11, 0, 1, 5, 1, 1, 0, 1, 1, 0, 1, 1);
    }

    /** The BELIEF of DOCUMENT 0 in TERM 2 is mu / 2. */
    private static void aBeliefNotAboveOneHalf() {
        Check.sentence("(or, if it is none of 0 to 4, a BELIEF not above 0.5)");
        BeliefForge forge = Check.forge("1", "2");
        forge.smooth(1, 1.0);
        due(0.5, forge, 5, 1, 1, 0, 2, 1);
        leftOut(forge, 11, 0, 1, 5, 1, 1, 0, 2, 1, 0, 2, 1);
        leftOut(forge, 11, 0, 1, 10, 0, 1, 0, 2, 1, 0, 2, 1);
        forge.smooth(1, Math.nextDown(1.0));
        due(Math.nextDown(0.5), forge, 5, 1, 1, 0, 2, 1);
        leftOut(forge, 11, 0, 1, 5, 1, 1, 0, 2, 1, 0, 1, 1);
        double mu = 1 - Math.scalb(1.0, -52);
        forge.smooth(1, mu);
        due(Math.nextUp(0.5), forge, 10, 0, 1, 0, 2, 1);
        due(mu / 2, forge, 11, 0, 1, 10, 0, 1, 0, 2, 1, 0, 2, 1);
        // 0 and 1
        BeliefForge certain = Check.forge("1");
        leftOut(certain, 11, 0, 1, 10, 0, 1, 0, 1, 1, 0, 1, 1);
        due(1.0, certain, 11, 0, 1, 5, 1, 1, 0, 1, 1, 0, 1, 1);
    }

    /** The BELIEF in TERM 1 is 0.75, in TERM 2 0.25. */
    private static void everyOperatorAsFirst() {
        Check.sentence("(or, if it is none of 0 to 4, a BELIEF not above 0.5)");
        BeliefForge forge = Check.forge("1 1 1 2");
        forge.smooth(1, 1.0);
        for (double kind = 5; kind <= 9; kind++) {
            due(0.25, forge, 11, 0, 1, kind, 1, 1, 0, 1, 1, 0, 2, 1);
            leftOut(forge, 11, 0, 1, kind, 1, 1, 0, 2, 1, 0, 2, 1);
        }
        due(0.25, forge, 11, 0, 1, 10, 0, 1, 0, 2, 1, 0, 2, 1);
        leftOut(forge, 11, 0, 1, 10, 0, 1, 0, 1, 1, 0, 2, 1);
        // a MUST as the first of a MUST: its BELIEF is that in its second, though it is a TERM
        due(0.25, forge, 11, 0, 1, 11, 0, 1, 0, 2, 1, 0, 1, 1, 0, 2, 1);
        leftOut(forge, 11, 0, 1, 11, 0, 1, 0, 1, 1, 0, 2, 1, 0, 2, 1);
    }

    private static void whereverThatStands() {
        Check.sentence("is LEFT OUT of the search, wherever that stands");
        BeliefForge forge = Check.forge("1 2", "9");
        double[][] queries = {
            {11, 0, 1, 0, 9, 1, 0, 1, 1},
            {10, 0, 1, 11, 0, 1, 0, 9, 1, 0, 1, 1},
            {11, 0, 1, 10, 0, 1, 11, 0, 1, 0, 9, 1, 0, 9, 1, 0, 1, 1},
            {11, 0, 1, 0, 1, 1, 11, 0, 1, 0, 9, 1, 0, 1, 1},
        };
        for (double[] query : queries) {
            leftOut(forge, query);
        }
        // as first and as last part of each operator, beside parts of a greater BELIEF
        for (double kind = 5; kind <= 9; kind++) {
            leftOut(forge, kind, 1, 1, 11, 0, 1, 0, 9, 1, 0, 1, 1);
            leftOut(forge, kind, 2, 1, 11, 0, 1, 0, 9, 1, 0, 3, 1, 0, 1, 1);
            leftOut(forge, kind, 4, 1, 0, 1, 1, 0, 1, 1, 0, 2, 1, 11, 0, 1, 0, 9, 1, 0, 3, 1);
        }
        deepInside(forge);
    }

    private static void deepInside(BeliefForge forge) {
        forge.clear();
        for (int i = 0; i < 21; i++) {
            forge.token(10, 0, 1.0);
        }
        forge.token(11, 0, 1.0);
        forge.token(0, 9, 1.0);
        forge.token(0, 1, 1.0);
        double belief = (0 + 2.0 * (1.0 / 3)) / (1 + 2.0);
        for (int i = 0; i < 21; i++) {
            belief = 1 - belief;
        }
        Check.missing("belief(0) with a MUST as TOKEN 21", () -> forge.belief(0));
        Check.same("belief(1) with a MUST as TOKEN 21", belief, forge.belief(1));
        Check.same("search(10) with a MUST as TOKEN 21", 1, forge.search(10));
        Check.same("left out", 1, forge.count(4));
    }

    private static void severalMusts() {
        Check.sentence("is LEFT OUT of the search, wherever that stands");
        BeliefForge forge = Check.forge("1 2", "1", "2", "3");
        double[] both = {5, 2, 1, 11, 0, 1, 0, 1, 1, 0, 1, 1, 11, 0, 1, 0, 2, 1, 0, 2, 1};
        Check.query(forge, both);
        Check.same("search(10) for both", 1, forge.search(10));
        Check.same("found(0)", 0, forge.found(0));
        Check.same("left out, each once", 3, forge.count(4));
        for (int d = 1; d <= 3; d++) {
            int doc = d;
            Check.missing("belief(" + d + ")", () -> forge.belief(doc));
        }
    }
}
