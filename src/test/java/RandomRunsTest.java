import java.util.Random;
import java.util.function.Supplier;

/** Long runs of calls, drawn from a fixed seed, on an object and on the oracle: all answers are the same. */
final class RandomRunsTest {
    private static final int RUNS = 400;
    private static final int CALLS = 512;

    private final Random random;
    private final int run;
    private final BeliefForge forge = new BeliefForge();
    private final Oracle oracle = new Oracle();
    private final int vocabulary;
    private final int mostWords;
    private int calls = 0;

    private RandomRunsTest(int run) {
        this.run = run;
        random = new Random(run);
        vocabulary = 2 + random.nextInt(15);
        mostWords = 2 + random.nextInt(23);
    }

    public static void main(String[] args) {
        for (int run = 0; run < RUNS; run++) {
            new RandomRunsTest(run).play();
        }
        Check.end();
    }

    private void play() {
        while (calls < CALLS) {
            switch (random.nextInt(8)) {
                case 0 -> text();
                case 1 -> oddCall();
                case 2 -> smooth();
                case 3, 4 -> ask();
                default -> query();
            }
        }
    }

    private void text() {
        int title = random.nextInt(6);
        both("document(" + title + ")", () -> forge.document(title), () -> oracle.document(title));
        int words = random.nextInt(mostWords);
        for (int i = 0; i < words; i++) {
            word(random.nextInt(vocabulary));
        }
    }

    private void word(int w) {
        both("word(" + w + ")", () -> forge.word(w), () -> oracle.word(w));
    }

    private void smooth() {
        int how = random.nextInt(2);
        double[] mus = {random.nextDouble(), 1.0, Math.scalb(random.nextDouble(), -random.nextInt(80)), 100 * random.nextDouble()};
        double mu = mus[random.nextInt(4)];
        both("smooth(" + how + ", " + mu + ")", () -> forge.smooth(how, mu), () -> oracle.smooth(how, mu));
    }

    private void query() {
        both("clear()", () -> forge.clear(), () -> oracle.clear());
        for (int i = 0; i < 60 && oracle.wanted() > 0 && oracle.count(2) < 24; i++) {
            drawToken();
        }
        ask();
    }

    private void drawToken() {
        int left = 24 - oracle.count(2) - oracle.wanted();
        int kind = left < 4 ? random.nextInt(2) : random.nextInt(12);
        boolean window = kind >= 2 && kind <= 4;
        int a = kind < 2 ? random.nextInt(vocabulary) : 1 + random.nextInt(kind < 5 && random.nextBoolean() ? 8 : 4);
        double w = window ? 1 + random.nextInt(4) : random.nextBoolean() ? 1 + random.nextInt(3) : 100 * random.nextDouble();
        token(kind, a, w);
    }

    private void token(int kind, int a, double w) {
        both("token(" + kind + ", " + a + ", " + w + ")", () -> forge.token(kind, a, w), () -> oracle.token(kind, a, w));
        both("wanted()", () -> forge.wanted(), () -> oracle.wanted());
    }

    private void ask() {
        int k = 1 + random.nextInt(10);
        both("search(" + k + ")", () -> forge.search(k), () -> oracle.search(k));
        for (int i = 0; i < 12; i++) {
            int d = i;
            both("belief(" + d + ")", () -> forge.belief(d), () -> oracle.belief(d));
            int t = random.nextInt(24);
            both("hits(" + t + ", " + d + ")", () -> forge.hits(t, d), () -> oracle.hits(t, d));
        }
        results();
        if (random.nextInt(3) == 0) {
            model(1 + random.nextInt(4));
        }
    }

    private void results() {
        for (int i = 0; i < 4; i++) {
            int k = random.nextInt(10);
            both("found(" + k + ")", () -> forge.found(k), () -> oracle.found(k));
            both("score(" + k + ")", () -> forge.score(k), () -> oracle.score(k));
        }
        both("count(3)", () -> forge.count(3), () -> oracle.count(3));
        both("count(4)", () -> forge.count(4), () -> oracle.count(4));
    }

    private void model(int n) {
        both("model(" + n + ")", () -> forge.model(n), () -> oracle.model(n));
        for (int i = 0; i < 6; i++) {
            int t = i;
            int what = random.nextInt(3);
            both("told(" + t + ", " + what + ")", () -> forge.told(t, what), () -> oracle.told(t, what));
        }
    }

    /** Numbers at random, for the most part wrong ones. */
    private void oddCall() {
        int x = odd();
        int y = odd();
        double z = random.nextBoolean() ? odd() : 3 * random.nextDouble();
        switch (random.nextInt(12)) {
            case 0 -> both("document(" + x + ")", () -> forge.document(x), () -> oracle.document(x));
            case 1 -> word(x);
            case 2 -> both("smooth(" + x + ", " + z + ")", () -> forge.smooth(x, z), () -> oracle.smooth(x, z));
            case 3, 4 -> token(x, y, z);
            case 5 -> both("belief(" + x + ")", () -> forge.belief(x), () -> oracle.belief(x));
            case 6 -> both("hits(" + x + ", " + y + ")", () -> forge.hits(x, y), () -> oracle.hits(x, y));
            case 7 -> both("search(" + x + ")", () -> forge.search(x), () -> oracle.search(x));
            case 8 -> both("found(" + x + ")", () -> forge.found(x), () -> oracle.found(x));
            case 9 -> both("model(" + x + ")", () -> forge.model(x), () -> oracle.model(x));
            case 10 -> both("told(" + x + ", " + y + ")", () -> forge.told(x, y), () -> oracle.told(x, y));
            default -> both("count(" + y + ")", () -> forge.count(y), () -> oracle.count(y));
        }
    }

    private int odd() {
        return switch (random.nextInt(8)) {
            case 0 -> random.nextInt();
            case 1 -> -1;
            case 2, 3 -> random.nextInt(50);
            default -> random.nextInt(13);
        };
    }

    private void both(String call, Supplier<Number> got, Supplier<Number> due) {
        if (calls++ < CALLS) {
            String what = "run " + run + ", call " + calls + ": " + call;
            Check.same(what, answer(due), answer(got));
        }
    }

    private static String answer(Supplier<Number> call) {
        try {
            Number answer = call.get();
            return answer instanceof Double x ? "double " + Double.toHexString(x) : "int " + answer;
        } catch (RuntimeException e) {
            return e.getClass().getName();
        }
    }
}
