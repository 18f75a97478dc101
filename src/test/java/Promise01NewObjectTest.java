/** Promise 1: a new object. */
final class Promise01NewObjectTest {
    public static void main(String[] args) {
        nothingIsThere();
        smoothingIsZeroWithMuTwo();
        objectsAreApart();
        Check.end();
    }

    private static void nothingIsThere() {
        BeliefForge forge = new BeliefForge();
        for (int what : new int[] {0, 1, 2, 3, 4, 10, 21, 30, 45}) {
            Check.same("new: count(" + what + ")", 0, forge.count(what));
        }
        Check.same("new: wanted()", 1, forge.wanted());
        Check.same("new: clear()", 0, forge.clear());
        Check.index("new: belief(0)", () -> forge.belief(0));
        Check.index("new: hits(0, 0)", () -> forge.hits(0, 0));
        Check.index("new: told(0, 0)", () -> forge.told(0, 0));
        Check.index("new: found(0)", () -> forge.found(0));
        Check.index("new: score(0)", () -> forge.score(0));
        Check.state("new: word(0)", () -> forge.word(0));
        Check.state("new: search(1)", () -> forge.search(1));
        Check.state("new: model(1)", () -> forge.model(1));
    }

    private static void smoothingIsZeroWithMuTwo() {
        BeliefForge forge = Check.forge("1 2 3");
        Check.query(forge, 0, 1, 1);
        Check.same("belief by the first smoothing", (1 + 2.0 * (1.0 / 3)) / (3 + 2.0), forge.belief(0));
        Check.same("the first smoothing", 0, forge.smooth(1, 1.0));
    }

    private static void objectsAreApart() {
        BeliefForge one = Check.forge("1 2 3");
        Check.query(one, 0, 1, 1);
        one.search(1);
        BeliefForge other = new BeliefForge();
        Check.same("another object: count(0)", 0, other.count(0));
        Check.same("another object: count(2)", 0, other.count(2));
        Check.same("another object: count(3)", 0, other.count(3));
    }
}
