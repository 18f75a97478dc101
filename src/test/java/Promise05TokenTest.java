/** Promise 5: token. */
final class Promise05TokenTest {
    private static final int LEAST = Integer.MIN_VALUE;
    private static final int MOST = Integer.MAX_VALUE;

    public static void main(String[] args) {
        howManyItHas();
        kindIsZeroToEleven();
        aOfTermsAndTitles();
        aOfNearAndAround();
        aOfOperators();
        aThatIsNotLookedAt();
        wAboveZeroAndUpToAHundred();
        wOfWindows();
        ifItHasTwentyFour();
        ifItIsWhole();
        ifATermIsWanted();
        whatIsNamedFirstIsThrown();
        Check.end();
    }

    private static void howManyItHas() {
        Check.sentence("A TOKEN comes to the QUERY: how many it has.");
        BeliefForge forge = new BeliefForge();
        Check.same("AND", 1, forge.token(5, 2, 1.0));
        Check.same("NEAR", 2, forge.token(2, 3, 2.0));
        Check.same("TERM", 3, forge.token(0, 1, 1.0));
        Check.same("TERM", 4, forge.token(0, 2, 1.0));
        Check.same("TITLE", 5, forge.token(1, 2, 1.0));
        Check.same("tokens", 5, forge.count(2));
    }

    private static void takes(int kind, int a, double w) {
        BeliefForge forge = new BeliefForge();
        String call = "token(" + kind + ", " + a + ", " + w + ")";
        Check.same(call, 1, forge.token(kind, a, w));
        Check.same("kind after " + call, (double) kind, forge.told(0, 0));
        Check.same("a after " + call, (double) a, forge.told(0, 1));
        Check.same("w after " + call, w, forge.told(0, 2));
    }

    /** In an empty QUERY, and in one that has a TOKEN and wants more. */
    private static void refuses(int kind, int a, double w) {
        String call = "token(" + kind + ", " + a + ", " + w + ")";
        BeliefForge empty = new BeliefForge();
        Check.refused(empty, call, IllegalArgumentException.class, () -> empty.token(kind, a, w));
        BeliefForge part = new BeliefForge();
        part.token(5, 3, 1.0);
        Check.refused(part, call + " behind AND", IllegalArgumentException.class, () -> part.token(kind, a, w));
        Check.same("the next token", 2, part.token(11, 0, 1.0));
    }

    private static void kindIsZeroToEleven() {
        Check.sentence("IllegalArgumentException if kind is not 0 to 11");
        for (int kind = 0; kind <= 11; kind++) {
            takes(kind, 1, 1.0);
        }
        for (int kind : new int[] {-1, 12, 13, LEAST, MOST}) {
            refuses(kind, 1, 1.0);
        }
    }

    private static void aOfTermsAndTitles() {
        Check.sentence("a not 0 to 15 for 0, 1");
        for (int kind = 0; kind <= 1; kind++) {
            for (int a = 0; a <= 15; a++) {
                takes(kind, a, 1.0);
            }
            for (int a : new int[] {-1, 16, 24, LEAST, MOST}) {
                refuses(kind, a, 1.0);
            }
        }
    }

    private static void aOfNearAndAround() {
        Check.sentence("1 to 24 for 2, 3");
        for (int kind = 2; kind <= 3; kind++) {
            for (int a = 1; a <= 24; a++) {
                takes(kind, a, 1.0);
            }
            for (int a : new int[] {0, -1, 25, LEAST, MOST}) {
                refuses(kind, a, 1.0);
            }
        }
    }

    private static void aOfOperators() {
        Check.sentence("1 to 4 for 5 to 9");
        for (int kind = 5; kind <= 9; kind++) {
            for (int a = 1; a <= 4; a++) {
                takes(kind, a, 1.0);
            }
            for (int a : new int[] {0, -1, 5, 24, LEAST, MOST}) {
                refuses(kind, a, 1.0);
            }
        }
    }

    private static void aThatIsNotLookedAt() {
        Check.sentence("(a of 4, 10, 11 is not looked at)");
        for (int kind : new int[] {4, 10, 11}) {
            for (int a : new int[] {-1, 0, 1, 4, 5, 16, 25, LEAST, MOST}) {
                takes(kind, a, 1.0);
            }
        }
    }

    private static void wAboveZeroAndUpToAHundred() {
        Check.sentence("if w is no number above 0 and up to 100");
        double[] wrong = {0.0, -0.0, -Double.MIN_VALUE, -1.0, Math.nextUp(100.0), 101.0,
            Double.NaN, Double.POSITIVE_INFINITY, Double.NEGATIVE_INFINITY};
        for (int kind = 0; kind <= 11; kind++) {
            for (double w : wrong) {
                refuses(kind, 1, w);
            }
            if (kind < 2 || kind > 4) {
                for (double w : new double[] {Double.MIN_VALUE, 0.3, 4.5, 5.0, Math.nextDown(100.0), 100.0}) {
                    takes(kind, 1, w);
                }
            }
        }
    }

    private static void wOfWindows() {
        Check.sentence("or, for 2 to 4, not 1, 2, 3 or 4");
        for (int kind = 2; kind <= 4; kind++) {
            for (int w = 1; w <= 4; w++) {
                takes(kind, 1, w);
                refuses(kind, 1, w + 0.5);
                refuses(kind, 1, Math.nextUp((double) w));
                refuses(kind, 1, Math.nextDown((double) w));
            }
            for (double w : new double[] {Double.MIN_VALUE, 0.5, 5.0, 6.0, 24.0, 100.0}) {
                refuses(kind, 1, w);
            }
        }
    }

    private static void ifItHasTwentyFour() {
        Check.sentence("IllegalStateException if it has 24");
        BeliefForge forge = new BeliefForge();
        for (int i = 1; i <= 24; i++) {
            Check.same("token " + i, i, forge.token(10, 0, 1.0));
        }
        Check.same("wanted of a full query", 1, forge.wanted());
        for (int kind = 0; kind <= 11; kind++) {
            int any = kind;
            Check.state("token 25, of kind " + kind, () -> forge.token(any, 1, 1.0));
        }
        Check.refused(forge, "token 25", IllegalStateException.class, () -> forge.token(0, 1, 1.0));
        fullAndWhole();
    }

    private static void fullAndWhole() {
        BeliefForge forge = new BeliefForge();
        for (int i = 1; i <= 23; i++) {
            forge.token(10, 0, 1.0);
        }
        Check.same("token 24, which makes it whole", 24, forge.token(0, 1, 1.0));
        Check.same("wanted of a full whole query", 0, forge.wanted());
        Check.refused(forge, "token 25 of a whole query", IllegalStateException.class, () -> forge.token(0, 1, 1.0));
    }

    private static void ifItIsWhole() {
        Check.sentence("IllegalStateException if it has 24, or is WHOLE");
        double[][] wholes = {
            {0, 1, 1}, {1, 1, 1}, {2, 3, 1, 0, 1, 1}, {4, 0, 2, 0, 1, 1, 0, 1, 1}, {5, 1, 1, 1, 1, 1},
            {10, 0, 1, 0, 1, 1}, {11, 0, 1, 0, 1, 1, 0, 2, 1}, {9, 2, 1, 10, 0, 1, 0, 1, 1, 3, 2, 1, 0, 1, 1},
        };
        for (double[] whole : wholes) {
            BeliefForge forge = Check.forge("1 2");
            Check.query(forge, whole);
            for (int kind = 0; kind <= 11; kind++) {
                int any = kind;
                Check.state("kind " + kind + " behind a whole query", () -> forge.token(any, 1, 1.0));
            }
            Check.refused(forge, "a TERM behind a whole query", IllegalStateException.class, () -> forge.token(0, 1, 1.0));
        }
    }

    private static void ifATermIsWanted() {
        Check.sentence("UnsupportedOperationException if a TERM is wanted, and it is none");
        for (int window = 2; window <= 4; window++) {
            for (int terms = 1; terms <= 4; terms++) {
                BeliefForge forge = new BeliefForge();
                forge.token(5, 2, 1.0);
                forge.token(window, 3, terms);
                for (int term = 1; term <= terms; term++) {
                    onlyATermIsTaken(forge, window);
                    Check.same("a TERM in window " + window, term + 2, forge.token(0, 1, 1.0));
                }
                Check.same("a TITLE behind the window", terms + 3, forge.token(1, 1, 1.0));
                Check.same("wanted", 0, forge.wanted());
            }
            BeliefForge forge = new BeliefForge();
            forge.token(window, 3, 3.0);
            forge.clear();
            Check.same("no TERM is wanted after clear", 1, forge.token(10, 0, 1.0));
        }
    }

    private static void onlyATermIsTaken(BeliefForge forge, int window) {
        for (int kind = 1; kind <= 11; kind++) {
            int none = kind;
            Check.unsupported("kind " + kind + " in window " + window, () -> forge.token(none, 1, 1.0));
        }
        Check.refused(forge, "a TITLE in window " + window, UnsupportedOperationException.class, () -> forge.token(1, 1, 1.0));
    }

    private static void whatIsNamedFirstIsThrown() {
        Check.sentence("IllegalArgumentException, IllegalStateException, UnsupportedOperationException");
        BeliefForge whole = new BeliefForge();
        whole.token(0, 1, 1.0);
        Check.argument("a wrong a behind a whole query", () -> whole.token(0, 16, 1.0));
        Check.argument("a wrong w behind a whole query", () -> whole.token(0, 1, 0.0));
        Check.argument("a wrong kind behind a whole query", () -> whole.token(12, 1, 1.0));
        BeliefForge window = new BeliefForge();
        window.token(2, 1, 2.0);
        Check.argument("a wrong TITLE where a TERM is wanted", () -> window.token(1, 16, 1.0));
        Check.argument("a wrong kind where a TERM is wanted", () -> window.token(-1, 1, 1.0));
        Check.argument("a wrong w where a TERM is wanted", () -> window.token(4, 1, 5.0));
        BeliefForge full = new BeliefForge();
        for (int i = 1; i <= 23; i++) {
            full.token(10, 0, 1.0);
        }
        full.token(4, 0, 4.0);
        Check.state("no TERM in a full query where one is wanted", () -> full.token(1, 1, 1.0));
        Check.argument("a wrong one in a full query", () -> full.token(1, 16, 1.0));
    }
}
