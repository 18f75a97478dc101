/** Promise 1: a new object. */
final class Promise01NewObjectTest {
    public static void main(String[] args) {
        noDocuments();
        anEmptyQuery();
        smoothingIsZeroWithMuTwo();
        nothingWasFound();
        objectsAreApart();
        Check.end();
    }

    private static void noDocuments() {
        Check.sentence("No DOCUMENTS");
        BeliefForge forge = new BeliefForge();
        Check.same("new: count(0)", 0, forge.count(0));
        Check.same("new: count(1)", 0, forge.count(1));
        for (int d = 0; d < 12; d++) {
            int doc = d;
            Check.same("new: count(" + (10 + d) + ")", 0, forge.count(10 + d));
            Check.index("new: belief(" + d + ")", () -> forge.belief(doc));
        }
        for (int v = 0; v < 16; v++) {
            Check.same("new: count(" + (30 + v) + ")", 0, forge.count(30 + v));
        }
        Check.state("new: word(0)", () -> forge.word(0));
        forge.token(0, 0, 1.0);
        Check.index("new: hits(0, 0) of a whole query", () -> forge.hits(0, 0));
        Check.same("new: search(10) of a whole query", 0, forge.search(10));
        Check.same("new: document(0)", 0, forge.document(0));
    }

    private static void anEmptyQuery() {
        Check.sentence("an empty QUERY");
        BeliefForge forge = new BeliefForge();
        Check.same("new: count(2)", 0, forge.count(2));
        Check.same("new: wanted()", 1, forge.wanted());
        Check.same("new: clear()", 0, forge.clear());
        Check.index("new: hits(0, 0)", () -> forge.hits(0, 0));
        Check.index("new: told(0, 0)", () -> forge.told(0, 0));
        Check.state("new: search(1)", () -> forge.search(1));
        Check.same("new: a token that is no TERM", 1, forge.token(11, 0, 1.0));
    }

    private static void smoothingIsZeroWithMuTwo() {
        Check.sentence("SMOOTHING 0 with mu 2");
        BeliefForge forge = Check.forge("1 2 3");
        Check.query(forge, 0, 1, 1);
        Check.same("belief by the first smoothing", (1 + 2.0 * (1.0 / 3)) / (3 + 2.0), forge.belief(0));
        Check.same("the first smoothing", 0, forge.smooth(1, 1.0));
    }

    private static void nothingWasFound() {
        Check.sentence("nothing was FOUND");
        BeliefForge forge = new BeliefForge();
        Check.same("new: count(3)", 0, forge.count(3));
        Check.same("new: count(4)", 0, forge.count(4));
        Check.index("new: found(0)", () -> forge.found(0));
        Check.index("new: score(0)", () -> forge.score(0));
        Check.state("new: model(1)", () -> forge.model(1));
    }

    private static void objectsAreApart() {
        Check.sentence("No DOCUMENTS, an empty QUERY, SMOOTHING 0 with mu 2; nothing was FOUND.");
        BeliefForge one = Check.forge("1 2 3");
        Check.query(one, 0, 1, 1);
        one.smooth(1, 0.5);
        one.search(1);
        String before = Picture.of(one);
        BeliefForge other = new BeliefForge();
        Check.same("another object: count(0)", 0, other.count(0));
        Check.same("another object: count(2)", 0, other.count(2));
        Check.same("another object: count(3)", 0, other.count(3));
        Check.same("another object: smooth(1, 1)", 0, other.smooth(1, 1.0));
        Check.add(other, "1 1");
        Check.query(other, 10, 0, 1, 0, 1, 1);
        other.search(1);
        Check.same("the first object after calls on the other", before, Picture.of(one));
    }
}
