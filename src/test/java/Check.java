import java.util.NoSuchElementException;

/** Counts answers that are as due, and prints those that are not. */
final class Check {
    private final String name;
    private int passed;
    private int failed;

    Check(String name) {
        this.name = name;
    }

    void due(String what, long got, long want) {
        if (got == want) {
            passed++;
        } else {
            failed++;
            System.out.println(name + ": " + what + " answered " + got + ", due is " + want);
        }
    }

    void due(String what, boolean got, boolean want) {
        due(what, got ? 1 : 0, want ? 1 : 0);
    }

    void end() {
        System.out.println(name + ": " + passed + " passed, " + failed + " failed");
        if (failed > 0) {
            System.exit(1);
        }
    }

    static int feed(RainGrammar x, String text) {
        int count = x.feed(0, 0, 0);
        for (int i = 0; i < text.length(); i += 24) {
            count = x.feed(bytes(text, i), bytes(text, i + 8), bytes(text, i + 16));
        }
        return count;
    }

    private static long bytes(String text, int from) {
        long row = 0;
        for (int i = from; i < from + 8; i++) {
            row = row << 8 | (i < text.length() ? text.charAt(i) & 255 : 0);
        }
        return row;
    }

    static int square(RainGrammar x, String text) {
        feed(x, text);
        return x.square();
    }

    static int day(RainGrammar x, String text) {
        feed(x, text);
        return x.day();
    }

    static int wish(RainGrammar x, String text) {
        feed(x, text);
        return x.wish();
    }

    static RainGrammar on(String text) {
        RainGrammar x = new RainGrammar();
        int fault = square(x, text);
        if (fault != 0) {
            throw new AssertionError("fault " + fault + " in " + text);
        }
        return x;
    }

    /** The answer, or -99 by a NoSuchElementException. */
    static int rests(RainGrammar x, int lose, int tilts, int stays, int what) {
        try {
            return x.rests(lose, tilts, stays, what);
        } catch (NoSuchElementException e) {
            return -99;
        }
    }
}
