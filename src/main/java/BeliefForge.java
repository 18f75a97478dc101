import java.util.NoSuchElementException;

/**
 * Retrieval by language models and networks of beliefs. The words in capitals in the comments, and the
 * promises that the methods keep, are those of the document DOC.md.
 */
public final class BeliefForge {
    private static final int MOST_DOCUMENTS = 12;
    private static final int MOST_WORDS = 24;
    private static final int VOCABULARY = 16;
    private static final int MOST_TOKENS = 24;
    private static final int MOST_PARTS = 4;
    private static final int MOST_FOUND = 10;
    private static final int LEAST_LG = -60;
    private static final int GREATEST_POWER = 1023;
    private static final long TWO_TO_60 = 1L << 60;

    private static final int TERM = 0;
    private static final int TITLE = 1;
    private static final int NEAR = 2;
    private static final int AROUND = 3;
    private static final int ANY = 4;
    private static final int AND = 5;
    private static final int OR = 6;
    private static final int MAX = 7;
    private static final int MEAN = 8;
    private static final int POINT = 9;
    private static final int NOT = 10;
    private static final int MUST = 11;

    private static final int COUNT_OF_LENGTHS = 10;
    private static final int COUNT_OF_WORDS = 30;

    private final Texts texts;
    private final Query query;
    private final Network network;
    private final Ranking ranking;
    private final Maker maker;

    /** Promise 1. */
    public BeliefForge() {
        texts = new Texts();
        query = new Query();
        network = new Network(texts, query);
        ranking = new Ranking();
        maker = new Maker(texts, ranking);
    }

    /** Promise 2. */
    public int document(int title) throws IllegalArgumentException, IllegalStateException {
        if (title < 0 || title > MOST_WORDS) {
            throw new IllegalArgumentException("a title has 0 to 24 words");
        }
        if (texts.isFull()) {
            throw new IllegalStateException("there are 12 documents");
        }
        return texts.open(title);
    }

    /** Promise 3. */
    public int word(int w) throws IllegalArgumentException, IllegalStateException {
        if (!isWord(w)) {
            throw new IllegalArgumentException("a word is 0 to 15");
        }
        if (!texts.takesWord()) {
            throw new IllegalStateException("no document takes a word");
        }
        return texts.append(w);
    }

    /** Promise 4. */
    public int smooth(int how, double mu) throws IllegalArgumentException {
        if (how != 0 && how != 1) {
            throw new IllegalArgumentException("smoothing is 0 or 1");
        }
        if (!isWithin(mu, how == 0 ? 100.0 : 1.0)) {
            throw new IllegalArgumentException("mu is above 0 and up to 100, or up to 1");
        }
        return network.change(how, mu);
    }

    /** Promise 5. */
    public int token(int kind, int a, double w)
            throws IllegalArgumentException, IllegalStateException, UnsupportedOperationException {
        if (!isNumberOf(kind, a)) {
            throw new IllegalArgumentException("no such kind, or a is not one of its numbers");
        }
        if (!isWeightOf(kind, w)) {
            throw new IllegalArgumentException("w is not one of the weights of the kind");
        }
        if (query.isFull() || query.isWhole()) {
            throw new IllegalStateException("the query takes no token");
        }
        if (query.wantsTerm() && kind != TERM) {
            throw new UnsupportedOperationException("a term is wanted");
        }
        return query.append(kind, a, w);
    }

    /** Promise 6. */
    public int clear() {
        int had = query.size();
        query.empty();
        return had;
    }

    /** Promise 7. */
    public int wanted() {
        return query.nodesWanted();
    }

    /** Promise 8. */
    public double belief(int d) throws IndexOutOfBoundsException, IllegalStateException, NoSuchElementException {
        if (!texts.has(d) || texts.lengthOf(d) == 0) {
            throw new IndexOutOfBoundsException("no such document, or it has no words");
        }
        if (!query.isWhole()) {
            throw new IllegalStateException("the query is not whole");
        }
        network.countHits();
        network.judge(d);
        if (network.leavesOut(d)) {
            throw new NoSuchElementException("the document is left out");
        }
        return network.judgement();
    }

    /** Promise 9. */
    public int hits(int t, int d)
            throws IndexOutOfBoundsException, IllegalStateException, UnsupportedOperationException {
        if (!query.has(t) || !texts.has(d)) {
            throw new IndexOutOfBoundsException("no such token or document");
        }
        if (!query.isWhole()) {
            throw new IllegalStateException("the query is not whole");
        }
        if (!hasHits(query.kindOf(t))) {
            throw new UnsupportedOperationException("the node is an operator");
        }
        return network.hitsIn(t, d);
    }

    /** Promise 10. */
    public int search(int k) throws IllegalArgumentException, IllegalStateException {
        if (k < 1 || k > MOST_FOUND) {
            throw new IllegalArgumentException("1 to 10 documents can be found");
        }
        if (!query.isWhole()) {
            throw new IllegalStateException("the query is not whole");
        }
        network.countHits();
        ranking.empty();
        for (int d = 0; d < texts.size(); d++) {
            if (texts.lengthOf(d) > 0) {
                rank(d);
            }
        }
        return ranking.keep(k);
    }

    /** Promise 11. */
    public int found(int k) throws IndexOutOfBoundsException {
        if (!ranking.has(k)) {
            throw new IndexOutOfBoundsException("not so many were found");
        }
        return ranking.documentAt(k);
    }

    /** Promise 12. */
    public double score(int k) throws IndexOutOfBoundsException {
        if (!ranking.has(k)) {
            throw new IndexOutOfBoundsException("not so many were found");
        }
        return ranking.beliefAt(k);
    }

    /** Promise 13. */
    public int model(int n) throws IllegalArgumentException, IllegalStateException {
        if (n < 1 || n > MOST_PARTS) {
            throw new IllegalArgumentException("a model has 1 to 4 words");
        }
        if (ranking.size() == 0) {
            throw new IllegalStateException("nothing is found");
        }
        maker.choose(n);
        maker.write(query);
        return query.size();
    }

    /** Promise 14. */
    public double told(int t, int what) throws IndexOutOfBoundsException, IllegalArgumentException {
        if (!query.has(t)) {
            throw new IndexOutOfBoundsException("no such token");
        }
        switch (what) {
            case 0:
                return query.kindOf(t);
            case 1:
                return query.numberOf(t);
            case 2:
                return query.weightOf(t);
            default:
                throw new IllegalArgumentException("a token tells 0, 1 or 2");
        }
    }

    /** Promise 15. */
    public int count(int what) throws IllegalArgumentException {
        if (what >= COUNT_OF_LENGTHS && what < COUNT_OF_LENGTHS + MOST_DOCUMENTS) {
            return texts.lengthOf(what - COUNT_OF_LENGTHS);
        }
        if (what >= COUNT_OF_WORDS && what < COUNT_OF_WORDS + VOCABULARY) {
            return texts.timesInAll(what - COUNT_OF_WORDS);
        }
        switch (what) {
            case 0:
                return texts.size();
            case 1:
                return texts.all();
            case 2:
                return query.size();
            case 3:
                return ranking.size();
            case 4:
                return ranking.leftOut();
            default:
                throw new IllegalArgumentException("nothing is counted under this number");
        }
    }

    private void rank(int d) {
        network.judge(d);
        if (network.leavesOut(d)) {
            ranking.leaveOut();
        } else {
            ranking.put(d, network.judgement());
        }
    }

    private static boolean isWord(int w) {
        return w >= 0 && w < VOCABULARY;
    }

    private static boolean isWithin(double x, double most) {
        return x > 0.0 && x <= most;
    }

    private static boolean isWindow(int kind) {
        return kind >= NEAR && kind <= ANY;
    }

    private static boolean hasHits(int kind) {
        return kind >= TERM && kind <= ANY;
    }

    private static boolean isNumberOf(int kind, int a) {
        switch (kind) {
            case TERM:
            case TITLE:
                return isWord(a);
            case NEAR:
            case AROUND:
                return a >= 1 && a <= MOST_WORDS;
            case AND:
            case OR:
            case MAX:
            case MEAN:
            case POINT:
                return a >= 1 && a <= MOST_PARTS;
            case ANY:
            case NOT:
            case MUST:
                return true;
            default:
                return false;
        }
    }

    private static boolean isWeightOf(int kind, double w) {
        if (isWindow(kind)) {
            return w == 1.0 || w == 2.0 || w == 3.0 || w == 4.0;
        }
        return isWithin(w, 100.0);
    }

    // Every division by a number that is not written goes through here, so that none can answer NaN.
    private static double ratio(double part, double whole) {
        return whole > 0.0 ? part / whole : 0.0;
    }

    /** LG. */
    private static double lg(double x) {
        if (x <= 1.0 / TWO_TO_60) {
            return LEAST_LG;
        }
        double m = x;
        int n = 0;
        while (m >= 2.0 && n < GREATEST_POWER) {
            m = m / 2.0;
            n++;
        }
        while (m < 1.0 && n > LEAST_LG) {
            m = m * 2.0;
            n--;
        }
        return n + (m - 1.0);
    }

    /** EX. */
    private static double ex(double v) {
        if (v <= LEAST_LG) {
            return 0.0;
        }
        int n = (int) v;
        // The cast goes towards 0, which is upwards below 0.
        if (n > v) {
            n--;
        }
        double x = 1.0 + (v - n);
        for (int i = n; i < 0; i++) {
            x = x / 2.0;
        }
        for (int i = 0; i < n; i++) {
            x = x * 2.0;
        }
        return x;
    }

    /** The DOCUMENTS. */
    private static final class Texts {
        private final int[][] words = new int[MOST_DOCUMENTS][MOST_WORDS];
        private final int[] lengths = new int[MOST_DOCUMENTS];
        private final int[] titles = new int[MOST_DOCUMENTS];
        private int size = 0;
        private int all = 0;

        int size() {
            return size;
        }

        int all() {
            return all;
        }

        boolean isFull() {
            return size == MOST_DOCUMENTS;
        }

        boolean has(int d) {
            return d >= 0 && d < size;
        }

        int open(int title) {
            titles[size] = title;
            size++;
            return size - 1;
        }

        boolean takesWord() {
            return size > 0 && lengths[size - 1] < MOST_WORDS;
        }

        int append(int w) {
            int d = size - 1;
            words[d][lengths[d]] = w;
            lengths[d]++;
            all++;
            return lengths[d];
        }

        int lengthOf(int d) {
            return lengths[d];
        }

        boolean stands(int w, int d, int place) {
            return place < lengths[d] && words[d][place] == w;
        }

        boolean standsInTitle(int w, int d, int place) {
            return place < titles[d] && stands(w, d, place);
        }

        /** The first place of the WORD that is not before from, or one past all places. */
        int nextPlace(int w, int d, int from) {
            int place = from;
            while (place < lengths[d] && words[d][place] != w) {
                place++;
            }
            return place < lengths[d] ? place : MOST_WORDS + MOST_WORDS;
        }

        int timesIn(int w, int d) {
            int times = 0;
            for (int place = 0; place < lengths[d]; place++) {
                if (words[d][place] == w) {
                    times++;
                }
            }
            return times;
        }

        int timesInAll(int w) {
            int times = 0;
            for (int d = 0; d < size; d++) {
                times += timesIn(w, d);
            }
            return times;
        }
    }

    /** The QUERY. */
    private static final class Query {
        private final int[] kinds = new int[MOST_TOKENS];
        private final int[] numbers = new int[MOST_TOKENS];
        private final double[] weights = new double[MOST_TOKENS];
        private final int[] ends = new int[MOST_TOKENS];
        private int size = 0;
        private int nodesWanted = 1;
        private int termsWanted = 0;

        int size() {
            return size;
        }

        int nodesWanted() {
            return nodesWanted;
        }

        boolean isFull() {
            return size == MOST_TOKENS;
        }

        boolean isWhole() {
            return nodesWanted == 0;
        }

        boolean wantsTerm() {
            return termsWanted > 0;
        }

        boolean has(int t) {
            return t >= 0 && t < size;
        }

        int kindOf(int t) {
            return kinds[t];
        }

        int numberOf(int t) {
            return numbers[t];
        }

        double weightOf(int t) {
            return weights[t];
        }

        void empty() {
            size = 0;
            nodesWanted = 1;
            termsWanted = 0;
        }

        int append(int kind, int a, double w) {
            int t = size;
            kinds[t] = kind;
            numbers[t] = a;
            weights[t] = w;
            size++;
            nodesWanted += partsOf(t) - 1;
            if (isWindow(kind)) {
                termsWanted = partsOf(t);
            } else if (termsWanted > 0) {
                termsWanted--;
            }
            if (isWhole()) {
                markEnds();
            }
            return size;
        }

        int partsOf(int t) {
            switch (kinds[t]) {
                case NEAR:
                case AROUND:
                case ANY:
                    return (int) weights[t];
                case AND:
                case OR:
                case MAX:
                case MEAN:
                case POINT:
                    return numbers[t];
                case NOT:
                    return 1;
                case MUST:
                    return 2;
                default:
                    return 0;
            }
        }

        /** The first TOKEN of a part (0 the first) of the NODE that begins with TOKEN t. */
        int partAt(int t, int part) {
            int at = t + 1;
            for (int i = 0; i < part; i++) {
                at = ends[at];
            }
            return at;
        }

        // The parts of a window are TERMS, which are one TOKEN each.
        int termOf(int t, int part) {
            return numbers[t + 1 + part];
        }

        // From the last TOKEN on, since the end of a NODE is that of its last part.
        private void markEnds() {
            for (int t = size - 1; t >= 0; t--) {
                ends[t] = partAt(t, partsOf(t));
            }
        }
    }

    /** What the DOCUMENTS have of a WHOLE QUERY: HITS and BELIEFS, by the SMOOTHING. */
    private static final class Network {
        private final Texts texts;
        private final Query query;
        private final int[][] tf = new int[MOST_TOKENS][MOST_DOCUMENTS];
        private final int[] cf = new int[MOST_TOKENS];
        private final double[] beliefs = new double[MOST_TOKENS];
        private int smoothing = 0;
        private double mu = 2.0;

        Network(Texts texts, Query query) {
            this.texts = texts;
            this.query = query;
        }

        int change(int newSmoothing, double newMu) {
            int was = smoothing;
            smoothing = newSmoothing;
            mu = newMu;
            return was;
        }

        int hitsIn(int t, int d) {
            int hits = 0;
            for (int place = 0; place < texts.lengthOf(d); place++) {
                if (isHit(t, d, place)) {
                    hits++;
                }
            }
            return hits;
        }

        /** Once for all DOCUMENTS, since the BELIEF of each looks at the HITS in all. */
        void countHits() {
            for (int t = 0; t < query.size(); t++) {
                if (hasHits(query.kindOf(t))) {
                    countHitsOf(t);
                }
            }
        }

        /** Finds the BELIEFS of a DOCUMENT in all NODES, parts before their parents. */
        void judge(int d) {
            for (int t = query.size() - 1; t >= 0; t--) {
                beliefs[t] = beliefIn(t, d);
            }
        }

        /** The BELIEF in the QUERY, of the DOCUMENT that was judged last. */
        double judgement() {
            return beliefs[0];
        }

        /** Whether a MUST, wherever it stands, leaves out the DOCUMENT, which was judged last. */
        boolean leavesOut(int d) {
            for (int t = 0; t < query.size(); t++) {
                if (query.kindOf(t) == MUST && !isMet(t + 1, d)) {
                    return true;
                }
            }
            return false;
        }

        private boolean isMet(int t, int d) {
            return hasHits(query.kindOf(t)) ? tf[t][d] > 0 : beliefs[t] > 0.5;
        }

        private void countHitsOf(int t) {
            cf[t] = 0;
            for (int d = 0; d < texts.size(); d++) {
                tf[t][d] = hitsIn(t, d);
                cf[t] += tf[t][d];
            }
        }

        private boolean isHit(int t, int d, int place) {
            switch (query.kindOf(t)) {
                case TERM:
                    return texts.stands(query.numberOf(t), d, place);
                case TITLE:
                    return texts.standsInTitle(query.numberOf(t), d, place);
                case NEAR:
                    return startsWay(t, d, place);
                case AROUND:
                    return standsAny(t, d, place) && standAllWithin(t, d, place);
                default:
                    return standsAny(t, d, place);
            }
        }

        private boolean startsWay(int t, int d, int place) {
            if (!texts.stands(query.termOf(t, 0), d, place)) {
                return false;
            }
            int at = place;
            for (int part = 1; part < query.partsOf(t); part++) {
                int next = texts.nextPlace(query.termOf(t, part), d, at + 1);
                if (next - at > query.numberOf(t)) {
                    return false;
                }
                at = next;
            }
            return true;
        }

        private boolean standsAny(int t, int d, int place) {
            for (int part = 0; part < query.partsOf(t); part++) {
                if (texts.stands(query.termOf(t, part), d, place)) {
                    return true;
                }
            }
            return false;
        }

        private boolean standAllWithin(int t, int d, int place) {
            for (int part = 0; part < query.partsOf(t); part++) {
                if (texts.nextPlace(query.termOf(t, part), d, place) >= place + query.numberOf(t)) {
                    return false;
                }
            }
            return true;
        }

        private double beliefIn(int t, int d) {
            switch (query.kindOf(t)) {
                case AND:
                    return productOf(t);
                case OR:
                    return 1.0 - productOfDoubts(t);
                case MAX:
                    return greatestOf(t);
                case MEAN:
                    return ex(ratio(weighedLgs(t), weightsOf(t)));
                case POINT:
                    return ratio(weighedBeliefs(t), weightsOf(t));
                case NOT:
                    return 1.0 - beliefOf(t, 0);
                case MUST:
                    return beliefOf(t, 1);
                default:
                    return smoothed(tf[t][d], cf[t], texts.lengthOf(d));
            }
        }

        private double smoothed(int hits, int hitsInAll, int length) {
            double c = hitsInAll == 0 ? 0.5 : hitsInAll;
            double common = ratio(c, texts.all());
            if (smoothing == 0) {
                return ratio(hits + mu * common, length + mu);
            }
            return (1.0 - mu) * ratio(hits, length) + mu * common;
        }

        private double beliefOf(int t, int part) {
            return beliefs[query.partAt(t, part)];
        }

        private double weightOf(int t, int part) {
            return query.weightOf(query.partAt(t, part));
        }

        private double productOf(int t) {
            double product = 1.0;
            for (int part = 0; part < query.partsOf(t); part++) {
                product = product * beliefOf(t, part);
            }
            return product;
        }

        private double productOfDoubts(int t) {
            double product = 1.0;
            for (int part = 0; part < query.partsOf(t); part++) {
                product = product * (1.0 - beliefOf(t, part));
            }
            return product;
        }

        private double greatestOf(int t) {
            double greatest = beliefOf(t, 0);
            for (int part = 1; part < query.partsOf(t); part++) {
                double other = beliefOf(t, part);
                greatest = other > greatest ? other : greatest;
            }
            return greatest;
        }

        private double weighedLgs(int t) {
            double sum = 0.0;
            for (int part = 0; part < query.partsOf(t); part++) {
                sum = sum + weightOf(t, part) * lg(beliefOf(t, part));
            }
            return sum;
        }

        private double weighedBeliefs(int t) {
            double sum = 0.0;
            for (int part = 0; part < query.partsOf(t); part++) {
                sum = sum + weightOf(t, part) * beliefOf(t, part);
            }
            return sum;
        }

        private double weightsOf(int t) {
            double sum = 0.0;
            for (int part = 0; part < query.partsOf(t); part++) {
                sum = sum + weightOf(t, part);
            }
            return sum;
        }
    }

    /** What the latest SEARCH FOUND and LEFT OUT. */
    private static final class Ranking {
        private final int[] documents = new int[MOST_DOCUMENTS];
        private final double[] beliefs = new double[MOST_DOCUMENTS];
        private int size = 0;
        private int leftOut = 0;

        int size() {
            return size;
        }

        int leftOut() {
            return leftOut;
        }

        boolean has(int k) {
            return k >= 0 && k < size;
        }

        int documentAt(int k) {
            return documents[k];
        }

        double beliefAt(int k) {
            return beliefs[k];
        }

        void empty() {
            size = 0;
            leftOut = 0;
        }

        void leaveOut() {
            leftOut++;
        }

        /** DOCUMENTS come by rising numbers, so one of the same BELIEF goes behind those that are here. */
        void put(int d, double belief) {
            int at = size;
            while (at > 0 && beliefs[at - 1] < belief) {
                documents[at] = documents[at - 1];
                beliefs[at] = beliefs[at - 1];
                at--;
            }
            documents[at] = d;
            beliefs[at] = belief;
            size++;
        }

        int keep(int most) {
            size = Math.min(size, most);
            return size;
        }
    }

    /** Makes MODELS. */
    private static final class Maker {
        private final Texts texts;
        private final Ranking ranking;
        private final double[] sums = new double[VOCABULARY];
        private final int[] chosen = new int[MOST_PARTS];
        private final double[] chosenSums = new double[MOST_PARTS];
        private int size = 0;

        Maker(Texts texts, Ranking ranking) {
            this.texts = texts;
            this.ranking = ranking;
        }

        void choose(int most) {
            for (int w = 0; w < VOCABULARY; w++) {
                sums[w] = sumOf(w);
            }
            size = 0;
            for (int i = 0; i < most; i++) {
                takeGreatest();
            }
        }

        void write(Query query) {
            query.empty();
            if (size > 1) {
                query.append(POINT, size, 1.0);
            }
            for (int i = 0; i < size; i++) {
                query.append(TERM, chosen[i], chosenSums[i]);
            }
        }

        private double sumOf(int w) {
            double sum = 0.0;
            for (int k = 0; k < ranking.size(); k++) {
                int d = ranking.documentAt(k);
                sum = sum + ranking.beliefAt(k) * ratio(texts.timesIn(w, d), texts.lengthOf(d));
            }
            return sum;
        }

        private void takeGreatest() {
            int greatest = 0;
            for (int w = 1; w < VOCABULARY; w++) {
                greatest = sums[w] > sums[greatest] ? w : greatest;
            }
            if (sums[greatest] > 0.0) {
                chosen[size] = greatest;
                chosenSums[size] = sums[greatest];
                size++;
                // A WORD is taken once: 0.0 is never taken.
                sums[greatest] = 0.0;
            }
        }
    }
}
