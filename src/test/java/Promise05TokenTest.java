/** Promise 5: token. */
final class Promise05TokenTest {
    public static void main(String[] args) {
        howManyItHas();
        edgesOfA();
        aThatIsNotLookedAt();
        edgesOfW();
        wholeOrFull();
        onlyTermsInWindows();
        whatIsLookedAtFirst();
        Check.end();
    }

    private static void howManyItHas() {
        BeliefForge forge = new BeliefForge();
        Check.same("AND", 1, forge.token(5, 2, 1.0));
        Check.same("NEAR", 2, forge.token(2, 3, 2.0));
        Check.same("TERM", 3, forge.token(0, 1, 1.0));
        Check.same("TERM", 4, forge.token(0, 2, 1.0));
        Check.same("TITLE", 5, forge.token(1, 2, 1.0));
        Check.same("tokens", 5, forge.count(2));
    }

    private static void edgesOfA() {
        for (int kind = 0; kind <= 11; kind++) {
            int least = kind < 2 ? 0 : 1;
            int most = kind < 2 ? 15 : kind < 5 ? 24 : 4;
            if (kind != 4 && kind < 10) {
                takes(kind, least, 1.0);
                takes(kind, most, 1.0);
                refuses(kind, least - 1, 1.0);
                refuses(kind, most + 1, 1.0);
                refuses(kind, Integer.MIN_VALUE, 1.0);
                refuses(kind, Integer.MAX_VALUE, 1.0);
            }
        }
        refuses(-1, 1, 1.0);
        refuses(12, 1, 1.0);
        refuses(Integer.MIN_VALUE, 1, 1.0);
        refuses(Integer.MAX_VALUE, 1, 1.0);
    }

    private static void aThatIsNotLookedAt() {
        for (int kind : new int[] {4, 10, 11}) {
            for (int a : new int[] {-1, 0, 25, Integer.MIN_VALUE, Integer.MAX_VALUE}) {
                takes(kind, a, 1.0);
            }
        }
    }

    private static void edgesOfW() {
        for (int kind = 0; kind <= 11; kind++) {
            for (double w : new double[] {0.0, -0.0, -1.0, Double.NaN, Double.POSITIVE_INFINITY, Math.nextUp(100.0)}) {
                refuses(kind, 1, w);
            }
            if (kind >= 2 && kind <= 4) {
                for (int w = 1; w <= 4; w++) {
                    takes(kind, 1, w);
                    refuses(kind, 1, w + 0.5);
                }
                refuses(kind, 1, 0.5);
                refuses(kind, 1, 5.0);
                refuses(kind, 1, 100.0);
            } else {
                takes(kind, 1, Double.MIN_VALUE);
                takes(kind, 1, 0.3);
                takes(kind, 1, 100.0);
            }
        }
    }

    private static void takes(int kind, int a, double w) {
        BeliefForge forge = new BeliefForge();
        Check.same("token(" + kind + ", " + a + ", " + w + ")", 1, forge.token(kind, a, w));
    }

    private static void refuses(int kind, int a, double w) {
        BeliefForge forge = new BeliefForge();
        Check.argument("token(" + kind + ", " + a + ", " + w + ")", () -> forge.token(kind, a, w));
        Check.same("tokens after a wrong one", 0, forge.count(2));
        Check.same("wanted after a wrong one", 1, forge.wanted());
    }

    private static void wholeOrFull() {
        BeliefForge forge = new BeliefForge();
        forge.token(10, 0, 1.0);
        forge.token(0, 1, 1.0);
        Check.state("a token behind a whole query", () -> forge.token(0, 1, 1.0));
        Check.same("tokens of a whole query", 2, forge.count(2));
        forge.clear();
        for (int i = 1; i <= 24; i++) {
            Check.same("token " + i, i, forge.token(10, 0, 1.0));
        }
        Check.state("token 25", () -> forge.token(0, 1, 1.0));
        Check.same("tokens of a full query", 24, forge.count(2));
        Check.same("wanted of a full query", 1, forge.wanted());
        forge.clear();
        for (int i = 1; i <= 23; i++) {
            forge.token(10, 0, 1.0);
        }
        Check.same("token 24, which makes it whole", 24, forge.token(0, 1, 1.0));
        Check.same("wanted of a full whole query", 0, forge.wanted());
    }

    private static void onlyTermsInWindows() {
        for (int window = 2; window <= 4; window++) {
            BeliefForge forge = new BeliefForge();
            forge.token(5, 2, 1.0);
            forge.token(window, 3, 3.0);
            for (int term = 1; term <= 3; term++) {
                for (int kind = 1; kind <= 11; kind++) {
                    int none = kind;
                    Check.unsupported("kind " + kind + " in window " + window, () -> forge.token(none, 1, 1.0));
                }
                Check.same("tokens", term + 1, forge.count(2));
                forge.token(0, 1, 1.0);
            }
            Check.same("a title behind the window", 6, forge.token(1, 1, 1.0));
            Check.same("wanted", 0, forge.wanted());
            forge.clear();
            forge.token(window, 3, 3.0);
            forge.clear();
            Check.same("no term is wanted after clear", 1, forge.token(10, 0, 1.0));
        }
    }

    private static void whatIsLookedAtFirst() {
        BeliefForge forge = new BeliefForge();
        forge.token(0, 1, 1.0);
        Check.argument("a wrong token behind a whole query", () -> forge.token(0, 16, 1.0));
        forge.clear();
        forge.token(2, 1, 2.0);
        Check.argument("a wrong title where a term is wanted", () -> forge.token(1, 16, 1.0));
        forge.clear();
        for (int i = 1; i <= 23; i++) {
            forge.token(10, 0, 1.0);
        }
        forge.token(4, 0, 4.0);
        Check.state("no term in a full query", () -> forge.token(1, 1, 1.0));
    }
}
