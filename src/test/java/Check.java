import java.util.NoSuchElementException;

/** Counts answers that are as due, and prints those that are not. */
final class Check {
    private final String name;
    private String sentence = "";
    private int passed;
    private int failed;

    Check(String name) {
        this.name = name;
    }

    /** The sentence of the document that the next answers are held against. */
    void about(String told) {
        sentence = "[" + told + "] ";
    }

    void due(String what, long got, long want) {
        if (got == want) {
            passed++;
        } else {
            failed++;
            System.out.println(name + ": " + sentence + what + " answered " + got + ", due is " + want);
        }
    }

    void due(String what, boolean got, boolean want) {
        due(what, got ? 1 : 0, want ? 1 : 0);
    }

    void due(String what, String got, String want) {
        due(what + ": " + got + " for " + want, got.equals(want), true);
    }

    void end() {
        System.out.println(name + ": " + passed + " passed, " + failed + " failed");
        if (failed > 0) {
            System.exit(1);
        }
    }

    static int feed(RainGrammar x, String text) {
        int count = x.feed(0, 0, 0);
        for (int i = 0; i < text.length(); i += 24) {
            count = x.feed(bytes(text, i), bytes(text, i + 8), bytes(text, i + 16));
        }
        return count;
    }

    private static long bytes(String text, int from) {
        long row = 0;
        for (int i = from; i < from + 8; i++) {
            row = row << 8 | (i < text.length() ? text.charAt(i) & 255 : 0);
        }
        return row;
    }

    static int square(RainGrammar x, String text) {
        feed(x, text);
        return x.square();
    }

    static int day(RainGrammar x, String text) {
        feed(x, text);
        return x.day();
    }

    static int wish(RainGrammar x, String text) {
        feed(x, text);
        return x.wish();
    }

    static RainGrammar on(String text) {
        RainGrammar x = new RainGrammar();
        int fault = square(x, text);
        if (fault != 0) {
            throw new AssertionError("fault " + fault + " in " + text);
        }
        return x;
    }

    /** The fault of a text with ^ ahead of the wrong token; without one there is none. */
    static int fault(String marked, int kind) {
        int place = marked.indexOf('^');
        return place < 0 ? 0 : kind + 16 * place;
    }

    /** The text n times, @ being a, then b, and so on. */
    static String times(String text, int n) {
        StringBuilder b = new StringBuilder();
        for (int i = 0; i < n; i++) {
            b.append(text.replace('@', (char) ('a' + i)));
        }
        return b.toString();
    }

    /** All that can be asked for of how it is but the marks, in one row: 90 calls. */
    static String state(RainGrammar x) {
        StringBuilder b = new StringBuilder();
        for (int what = 0; what <= 12; what++) {
            b.append(x.count(what)).append(' ');
        }
        for (int i = 0; i < 7; i++) {
            for (int what = 0; what <= 5; what++) {
                b.append(x.walker(i, what)).append(' ');
            }
            b.append(x.read(i)).append(' ').append(x.steps(i)).append(' ');
        }
        b.append(x.judged(0)).append(' ').append(x.judged(1)).append(' ').append(x.judged(2)).append(' ');
        b.append(x.said()).append(' ').append(x.wished()).append(' ').append(x.steps(-1)).append(' ');
        b.append(x.who()).append(' ').append(x.ask()).append(' ').append(x.keys()).append(' ').append(x.least());
        b.append(' ').append(x.when()).append(' ').append(x.most()).append(' ').append(x.talk(60)).append(' ');
        b.append(x.colours()).append(' ').append(x.chance(3)).append(' ').append(x.days(7, 20, 0)).append(' ');
        return b.append(x.days(7, 20, 1)).append(' ').append(x.days(7, 20, 2)).toString();
    }

    /** The answer, or -99 by a NoSuchElementException. */
    static int rests(RainGrammar x, int lose, int tilts, int stays, int what) {
        try {
            return x.rests(lose, tilts, stays, what);
        } catch (NoSuchElementException e) {
            return -99;
        }
    }
}
