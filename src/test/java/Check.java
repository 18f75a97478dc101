import java.util.NoSuchElementException;

/** What the tests share: comparing answers, and short ways to fill an object. */
final class Check {
    private static int wrong = 0;
    private static int done = 0;
    private static String sentence = "";

    private Check() {
    }

    /** The words of the document that the checks from here on are for: told with each wrong answer. */
    static void sentence(String words) {
        sentence = words;
    }

    static void same(String call, long due, long got) {
        done++;
        if (got != due) {
            tell(call, String.valueOf(got), String.valueOf(due));
        }
    }

    /** Doubles are due to the last bit. */
    static void same(String call, double due, double got) {
        done++;
        if (Double.doubleToLongBits(got) != Double.doubleToLongBits(due)) {
            tell(call, String.valueOf(got), String.valueOf(due));
        }
    }

    static void same(String call, String due, String got) {
        done++;
        if (!got.equals(due)) {
            tell(call, got, due);
        }
    }

    static void argument(String call, Runnable run) {
        throwing(call, IllegalArgumentException.class, run);
    }

    static void state(String call, Runnable run) {
        throwing(call, IllegalStateException.class, run);
    }

    static void index(String call, Runnable run) {
        throwing(call, IndexOutOfBoundsException.class, run);
    }

    static void unsupported(String call, Runnable run) {
        throwing(call, UnsupportedOperationException.class, run);
    }

    static void missing(String call, Runnable run) {
        throwing(call, NoSuchElementException.class, run);
    }

    /** The call throws, and leaves the object as it was. */
    static void refused(BeliefForge forge, String call, Class<? extends RuntimeException> due, Runnable run) {
        String before = Picture.of(forge);
        throwing(call, due, run);
        same("the object after " + call, before, Picture.of(forge));
    }

    /** The very class is due: one that extends it would have been thrown by Java itself. */
    private static void throwing(String call, Class<? extends RuntimeException> due, Runnable run) {
        done++;
        String got = "nothing thrown";
        try {
            run.run();
        } catch (RuntimeException e) {
            if (e.getClass() == due) {
                return;
            }
            got = e.toString();
        }
        tell(call, got, due.getName());
    }

    private static void tell(String call, String got, String due) {
        wrong++;
        System.out.println(call + " answered " + got + ", due is " + due);
        if (!sentence.isEmpty()) {
            System.out.println("  by: " + sentence);
        }
    }

    /** Ends the test: with exit code 1 if an answer was wrong, or if nothing was looked at. */
    static void end() {
        if (wrong > 0 || done == 0) {
            System.out.println(wrong + " of " + done + " answers are not as due");
            System.exit(1);
        }
    }

    /** An object with a DOCUMENT for each text: its WORDS, the TITLE being those before a bar. */
    static BeliefForge forge(String... texts) {
        BeliefForge forge = new BeliefForge();
        for (String text : texts) {
            add(forge, text);
        }
        return forge;
    }

    static void add(BeliefForge forge, String text) {
        int bar = text.indexOf('|');
        forge.document(bar < 0 ? 0 : words(text.substring(0, bar)).length);
        for (String word : words(text.replace('|', ' '))) {
            forge.word(Integer.parseInt(word));
        }
    }

    private static String[] words(String text) {
        return text.isBlank() ? new String[0] : text.trim().split("\\s+");
    }

    /** A new QUERY of TOKENS: kind, a and w of the first, then of the second, and so on. */
    static void query(BeliefForge forge, double... tokens) {
        forge.clear();
        for (int i = 0; i < tokens.length; i += 3) {
            forge.token((int) tokens[i], (int) tokens[i + 1], tokens[i + 2]);
        }
    }
}
