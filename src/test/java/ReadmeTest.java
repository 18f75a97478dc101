import java.io.IOException;
import java.nio.file.Files;
import java.nio.file.Path;
import java.util.ArrayList;
import java.util.List;

/** The example of README.md: the method here has its very lines, and the answers are those that its comments tell. */
final class ReadmeTest {
    public static void main(String[] args) throws IOException {
        answers();
        theSameLines();
        Check.end();
    }

    private static void answers() {
        // README begins
        BeliefForge forge = new BeliefForge();

        forge.document(2);            // DOCUMENT 0, with a TITLE of two WORDS
        forge.word(1);
        forge.word(2);
        forge.word(3);
        forge.document(0);            // DOCUMENT 1
        forge.word(2);
        forge.word(2);

        forge.smooth(1, 0.5);         // SMOOTHING 1 with mu 0.5 (at first: 0 with 2)

        forge.token(11, 0, 1.0);      // MUST
        forge.token(0, 1, 1.0);       //   TERM 1 has HITS; else the DOCUMENT is LEFT OUT
        forge.token(8, 2, 1.0);       //   MEAN of two NODES
        forge.token(0, 2, 3.0);       //     TERM 2, with WEIGHT 3
        forge.token(2, 1, 2.0);       //     NEAR of two TERMS, at most 1 apart, with WEIGHT 2
        forge.token(0, 2, 1.0);
        forge.token(0, 3, 1.0);

        int found = forge.search(10); // 1: DOCUMENT 1 is LEFT OUT
        int best = forge.found(0);    // DOCUMENT 0
        double how = forge.score(0);  // its BELIEF, which belief(0) would answer too
        int hits = forge.hits(4, 0);  // 1: the TF of the NEAR in DOCUMENT 0
        // README pauses
        Check.same("search(10)", 1, found);
        Check.same("found(0)", 0, best);
        Check.same("score(0)", forge.belief(0), how);
        Check.same("hits(4, 0)", 1, hits);
        Check.same("count(4)", 1, forge.count(4));
        Check.missing("belief(1)", () -> forge.belief(1));
        // README goes on

        forge.model(3);               // the QUERY is now a POINT of the three weightiest WORDS FOUND
        forge.search(10);
        // README ends
        Check.same("told(0, 0)", 9.0, forge.told(0, 0));
        Check.same("told(0, 1)", 3.0, forge.told(0, 1));
        Check.same("DOCUMENTS FOUND by the MODEL", 2, forge.count(3));
    }

    private static void theSameLines() throws IOException {
        List<String> here = new ArrayList<>();
        boolean inside = false;
        for (String line : Files.readAllLines(Path.of("src/test/java/ReadmeTest.java"))) {
            String text = line.trim();
            if (text.startsWith("// README")) {
                inside = text.endsWith("begins") || text.endsWith("on");
            } else if (inside) {
                here.add(text);
            }
        }
        Check.same("the example of README.md", String.join("\n", here), String.join("\n", example()));
    }

    private static List<String> example() throws IOException {
        List<String> lines = new ArrayList<>();
        boolean inside = false;
        for (String line : Files.readAllLines(Path.of("README.md"))) {
            if (line.startsWith("```")) {
                inside = line.equals("```java");
            } else if (inside) {
                lines.add(line.trim());
            }
        }
        return lines;
    }
}
