import java.util.ArrayList;
import java.util.List;
import java.util.NoSuchElementException;
import java.util.TreeMap;
import java.util.TreeSet;

/**
 * The document once more, written for being read beside it and in another way than the program: with
 * trees of NODES, recursion, sets of places and the library's powers of two.
 */
final class Oracle {
    private record Text(int title, List<Integer> words) {
        int len() {
            return words.size();
        }

        TreeSet<Integer> places(int word, int before) {
            TreeSet<Integer> places = new TreeSet<>();
            for (int i = 0; i < Math.min(len(), before); i++) {
                if (words.get(i) == word) {
                    places.add(i);
                }
            }
            return places;
        }
    }

    private record Token(int kind, int a, double w) {
    }

    private record Node(Token token, int first, List<Node> parts) {
    }

    private record Found(int document, double belief) {
    }

    private final List<Text> texts = new ArrayList<>();
    private final List<Token> tokens = new ArrayList<>();
    private List<Found> ranking = new ArrayList<>();
    private int leftOut = 0;
    private int how = 0;
    private double mu = 2;

    int document(int title) {
        when(title < 0 || title > 24, new IllegalArgumentException());
        when(texts.size() == 12, new IllegalStateException());
        texts.add(new Text(title, new ArrayList<>()));
        return texts.size() - 1;
    }

    int word(int w) {
        when(w < 0 || w > 15, new IllegalArgumentException());
        when(texts.isEmpty(), new IllegalStateException());
        Text last = texts.get(texts.size() - 1);
        when(last.len() == 24, new IllegalStateException());
        last.words.add(w);
        return last.len();
    }

    int smooth(int newHow, double newMu) {
        when(newHow < 0 || newHow > 1, new IllegalArgumentException());
        when(!(newMu > 0) || newMu > (newHow == 1 ? 1 : 100), new IllegalArgumentException());
        int was = how;
        how = newHow;
        mu = newMu;
        return was;
    }

    int token(int kind, int a, double w) {
        when(kind < 0 || kind > 11, new IllegalArgumentException());
        when(kind <= 1 && (a < 0 || a > 15), new IllegalArgumentException());
        when((kind == 2 || kind == 3) && (a < 1 || a > 24), new IllegalArgumentException());
        when(kind >= 5 && kind <= 9 && (a < 1 || a > 4), new IllegalArgumentException());
        when(!(w > 0 && w <= 100), new IllegalArgumentException());
        when(kind >= 2 && kind <= 4 && (w > 4 || w != Math.rint(w)), new IllegalArgumentException());
        when(tokens.size() == 24 || wanted() == 0, new IllegalStateException());
        when(kind != 0 && termIsWanted(), new UnsupportedOperationException());
        tokens.add(new Token(kind, a, w));
        return tokens.size();
    }

    int clear() {
        int had = tokens.size();
        tokens.clear();
        return had;
    }

    int wanted() {
        int wanted = 1;
        for (Token token : tokens) {
            wanted += parts(token) - 1;
        }
        return wanted;
    }

    double belief(int d) {
        when(d < 0 || d >= texts.size() || texts.get(d).len() == 0, new IndexOutOfBoundsException());
        when(wanted() != 0, new IllegalStateException());
        when(isLeftOut(root(), texts.get(d)), new NoSuchElementException());
        return beliefIn(root(), texts.get(d));
    }

    int hits(int t, int d) {
        when(t < 0 || t >= tokens.size() || d < 0 || d >= texts.size(), new IndexOutOfBoundsException());
        when(wanted() != 0, new IllegalStateException());
        when(tokens.get(t).kind > 4, new UnsupportedOperationException());
        return hitsOf(nodeAt(t), texts.get(d)).size();
    }

    int search(int k) {
        when(k < 1 || k > 10, new IllegalArgumentException());
        when(wanted() != 0, new IllegalStateException());
        List<Found> all = new ArrayList<>();
        leftOut = 0;
        for (int d = 0; d < texts.size(); d++) {
            Text text = texts.get(d);
            if (text.len() > 0 && isLeftOut(root(), text)) {
                leftOut++;
            } else if (text.len() > 0) {
                all.add(new Found(d, beliefIn(root(), text)));
            }
        }
        all.sort((p, q) -> p.belief == q.belief ? p.document - q.document : p.belief > q.belief ? -1 : 1);
        ranking = new ArrayList<>(all.subList(0, Math.min(k, all.size())));
        return ranking.size();
    }

    int found(int k) {
        when(k < 0 || k >= ranking.size(), new IndexOutOfBoundsException());
        return ranking.get(k).document;
    }

    double score(int k) {
        when(k < 0 || k >= ranking.size(), new IndexOutOfBoundsException());
        return ranking.get(k).belief;
    }

    int model(int n) {
        when(n < 1 || n > 4, new IllegalArgumentException());
        when(ranking.isEmpty(), new IllegalStateException());
        TreeMap<Double, TreeSet<Integer>> words = new TreeMap<>();
        for (int word = 0; word < 16; word++) {
            double sum = 0.0;
            for (Found found : ranking) {
                Text text = texts.get(found.document);
                sum += found.belief * ((double) text.places(word, 24).size() / text.len());
            }
            words.computeIfAbsent(sum, s -> new TreeSet<>()).add(word);
        }
        tokens.clear();
        for (double sum : words.descendingKeySet()) {
            for (int word : words.get(sum)) {
                if (sum > 0 && tokens.size() < n) {
                    tokens.add(new Token(0, word, sum));
                }
            }
        }
        if (tokens.size() > 1) {
            tokens.add(0, new Token(9, tokens.size(), 1));
        }
        return tokens.size();
    }

    double told(int t, int what) {
        when(t < 0 || t >= tokens.size(), new IndexOutOfBoundsException());
        when(what < 0 || what > 2, new IllegalArgumentException());
        Token token = tokens.get(t);
        return new double[] {token.kind, token.a, token.w}[what];
    }

    int count(int what) {
        if (what >= 10 && what <= 21) {
            return what - 10 < texts.size() ? texts.get(what - 10).len() : 0;
        }
        if (what >= 30 && what <= 45) {
            return texts.stream().mapToInt(text -> text.places(what - 30, 24).size()).sum();
        }
        when(what < 0 || what > 4, new IllegalArgumentException());
        return new int[] {texts.size(), all(), tokens.size(), ranking.size(), leftOut}[what];
    }

    private static void when(boolean wrong, RuntimeException thrown) {
        if (wrong) {
            throw thrown;
        }
    }

    private static int parts(Token token) {
        return token.kind < 2 ? 0 : token.kind < 5 ? (int) token.w : token.kind < 10 ? token.a : token.kind - 9;
    }

    /** The latest TOKEN that is no TERM is a window that has not all its TERMS yet. */
    private boolean termIsWanted() {
        for (int t = tokens.size() - 1; t >= 0; t--) {
            Token token = tokens.get(t);
            if (token.kind != 0) {
                return token.kind >= 2 && token.kind <= 4 && tokens.size() - 1 - t < parts(token);
            }
        }
        return false;
    }

    private int all() {
        return texts.stream().mapToInt(Text::len).sum();
    }

    private Node root() {
        return nodeAt(0);
    }

    private Node nodeAt(int t) {
        List<Node> parts = new ArrayList<>();
        int at = t + 1;
        for (int i = 0; i < parts(tokens.get(t)); i++) {
            Node part = nodeAt(at);
            parts.add(part);
            at += size(part);
        }
        return new Node(tokens.get(t), t, parts);
    }

    private static int size(Node node) {
        return 1 + node.parts.stream().mapToInt(Oracle::size).sum();
    }

    private TreeSet<Integer> hitsOf(Node node, Text text) {
        int a = node.token.a;
        switch (node.token.kind) {
            case 0:
                return text.places(a, 24);
            case 1:
                return text.places(a, text.title);
            case 2:
                return ways(node, text);
            default:
                TreeSet<Integer> any = new TreeSet<>();
                node.parts.forEach(part -> any.addAll(hitsOf(part, text)));
                if (node.token.kind == 3) {
                    any.removeIf(p -> node.parts.stream().anyMatch(part -> hitsOf(part, text).subSet(p, p + a).isEmpty()));
                }
                return any;
        }
    }

    private TreeSet<Integer> ways(Node node, Text text) {
        TreeSet<Integer> starts = new TreeSet<>();
        for (int start : hitsOf(node.parts.get(0), text)) {
            Integer at = start;
            for (int i = 1; i < node.parts.size() && at != null; i++) {
                Integer next = hitsOf(node.parts.get(i), text).higher(at);
                at = next != null && next <= at + node.token.a ? next : null;
            }
            if (at != null) {
                starts.add(start);
            }
        }
        return starts;
    }

    private boolean isLeftOut(Node node, Text text) {
        if (node.token.kind == 11) {
            Node first = node.parts.get(0);
            if (first.token.kind <= 4 ? hitsOf(first, text).isEmpty() : beliefIn(first, text) <= 0.5) {
                return true;
            }
        }
        return node.parts.stream().anyMatch(part -> isLeftOut(part, text));
    }

    private double beliefIn(Node node, Text text) {
        if (node.token.kind <= 4) {
            return smoothed(node, text);
        }
        double[] each = node.parts.stream().mapToDouble(part -> beliefIn(part, text)).toArray();
        double product = 1.0;
        double doubts = 1.0;
        double greatest = each[0];
        double lgs = 0.0;
        double points = 0.0;
        double weights = 0.0;
        for (int i = 0; i < each.length; i++) {
            double weight = node.parts.get(i).token.w;
            product *= each[i];
            doubts *= 1 - each[i];
            greatest = each[i] > greatest ? each[i] : greatest;
            lgs += weight * lg(each[i]);
            points += weight * each[i];
            weights += weight;
        }
        return switch (node.token.kind) {
            case 5 -> product;
            case 6 -> 1 - doubts;
            case 7 -> greatest;
            case 8 -> ex(lgs / weights);
            case 9 -> points / weights;
            case 10 -> 1 - each[0];
            default -> each[1];
        };
    }

    private double smoothed(Node node, Text text) {
        double tf = hitsOf(node, text).size();
        double cf = texts.stream().mapToInt(other -> hitsOf(node, other).size()).sum();
        double c = cf == 0 ? 0.5 : cf;
        if (how == 0) {
            return (tf + mu * (c / all())) / (text.len() + mu);
        }
        return (1 - mu) * (tf / text.len()) + mu * (c / all());
    }

    private static double lg(double x) {
        if (!(x > Math.scalb(1.0, -60))) {
            return -60.0;
        }
        int n = Math.getExponent(x);
        return n + (Math.scalb(x, -n) - 1);
    }

    private static double ex(double v) {
        return v > -60 ? Math.scalb(1 + (v - Math.floor(v)), (int) Math.floor(v)) : 0.0;
    }
}
