/** All that an object shows of its state without being changed, in one text (HITS left aside: they are many). */
final class Picture {
    private final BeliefForge forge;
    private final StringBuilder text = new StringBuilder();

    private Picture(BeliefForge forge) {
        this.forge = forge;
    }

    static String of(BeliefForge forge) {
        Picture picture = new Picture(forge);
        picture.counts(0, 4);
        picture.counts(10, 21);
        picture.counts(30, 45);
        picture.query();
        picture.beliefs();
        picture.found();
        return picture.text.toString();
    }

    private void counts(int first, int last) {
        for (int what = first; what <= last; what++) {
            text.append(forge.count(what)).append(' ');
        }
        text.append('|');
    }

    private void query() {
        text.append(" wanted ").append(forge.wanted());
        for (int t = 0; t < forge.count(2); t++) {
            text.append(" (").append(forge.told(t, 0)).append(' ').append(forge.told(t, 1));
            text.append(' ').append(forge.told(t, 2)).append(')');
        }
    }

    private void beliefs() {
        for (int d = 0; d < forge.count(0); d++) {
            text.append(" belief ").append(belief(d));
        }
    }

    private String belief(int d) {
        try {
            return String.valueOf(forge.belief(d));
        } catch (RuntimeException e) {
            return e.getClass().getSimpleName();
        }
    }

    private void found() {
        for (int k = 0; k < forge.count(3); k++) {
            text.append(" found ").append(forge.found(k)).append(' ').append(forge.score(k));
        }
    }
}
