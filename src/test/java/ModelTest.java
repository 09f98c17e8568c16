import java.util.ArrayList;
import java.util.List;
import java.util.NoSuchElementException;
import java.util.Random;

/** Long runs of all calls, by a fixed seed, on the program and on the slow model. */
public final class ModelTest {
    private static final String[] ODDS = {"sort", "colour", "as", "rule", "is", "says", "walker", "at", "goes",
        "gusts", "reads", "tick", "move", "shut", "open", "plain", "bare", "lover", "bent", "not", "and", "or",
        "spot", "crowd", "hour", "first", "0", "1", "2", "9", "10", "11", "0007", "9999", "12345", "(", ")", "<",
        "=", "+", "-", "*", ";", ",", "A", "toolongword", "sa", "sb", "ca", "cb", "wa", "wb", "eight", ""};
    private static final String[] KINDS = {"plain", "bare", "lover", "bent"};
    private final Random random;
    private final Check check = new Check("ModelTest");
    private RainGrammar x;
    private Model m;
    private StringBuilder trace;

    private ModelTest(long seed) {
        random = new Random(seed);
    }

    private int below(int n) {
        return random.nextInt(n);
    }

    private String pick(String[] row) {
        return row[below(row.length)];
    }

    private String numbers(int most, int bound) {
        StringBuilder b = new StringBuilder();
        for (int i = below(most); i >= 0; i--) {
            b.append(' ').append(below(bound));
        }
        return b.toString();
    }

    private String part(int depth) {
        int k = below(depth > 2 ? 6 : 8);
        switch (k) {
            case 0:
                return "spot";
            case 1:
                return "crowd";
            case 2:
                return "hour";
            case 3:
                return "first";
            case 4:
            case 5:
                return "" + below(random.nextInt(4) == 0 ? 10000 : 8);
            case 6:
                return "not " + part(depth + 1);
            default:
                return "(" + expr(depth + 1) + ")";
        }
    }

    private String expr(int depth) {
        String[] joints = {" and ", " or ", "<", "=", "+", "-", "*"};
        StringBuilder b = new StringBuilder(part(depth));
        boolean compared = false;
        for (int i = below(4); i > 0; i--) {
            String j = pick(joints);
            boolean compares = j.equals("<") || j.equals("=");
            if (compared && compares) {
                continue;
            }
            compared = compares || compared && !j.startsWith(" ");
            b.append(j).append(part(depth));
        }
        return b.toString();
    }

    private String square() {
        StringBuilder b = new StringBuilder();
        int sorts = 1 + below(random.nextInt(3) == 0 ? 6 : 3);
        int colours = 1 + below(random.nextInt(3) == 0 ? 6 : 3);
        for (int i = 0; i < sorts; i++) {
            b.append("sort s").append((char) ('a' + i)).append(";");
        }
        for (int i = 0; i < colours; i++) {
            b.append("colour c").append((char) ('a' + i)).append(" as s").append((char) ('a' + below(sorts))).append(";");
        }
        List<String> rules = new ArrayList<>();
        for (int i = below(13); i > 0; i--) {
            String r = "rule s" + (char) ('a' + below(sorts)) + " is s" + (char) ('a' + below(sorts)) + " s"
                + (char) ('a' + below(sorts)) + ";";
            if (!rules.contains(r)) {
                rules.add(r);
                b.append(r);
            }
        }
        if (below(4) > 0) {
            b.append("says s").append((char) ('a' + below(sorts))).append(";");
        }
        int walkers = random.nextInt(3) == 0 ? below(8) : 5 + below(3);
        for (int i = 0; i < walkers; i++) {
            String kind = below(2) == 0 ? "plain" : pick(KINDS);
            b.append("walker w").append((char) ('a' + i)).append(' ').append(kind).append(" c")
                .append((char) ('a' + below(colours))).append(" at ").append(below(10)).append(" goes")
                .append(numbers(6, 3)).append(";");
        }
        if (below(2) == 0) {
            b.append("gusts").append(numbers(8, 11)).append(";");
        }
        if (below(2) == 0) {
            b.append("reads ").append(below(2) == 0 ? expr(0) : "1").append(";");
        }
        return b.toString();
    }

    private String spoiled(String text) {
        int n = below(3) == 0 ? 0 : 1 + below(2);
        StringBuilder b = new StringBuilder(text);
        for (int i = 0; i < n; i++) {
            int at = below(b.length() + 1);
            switch (below(4)) {
                case 0:
                    b.delete(at, Math.min(b.length(), at + 1 + below(4)));
                    break;
                case 1:
                    b.insert(at, " " + pick(ODDS) + " ");
                    break;
                case 2:
                    b.insert(at, pick(ODDS));
                    break;
                default:
                    b.replace(at, Math.min(b.length(), at + 2), pick(ODDS));
                    break;
            }
        }
        return b.toString();
    }

    private String day() {
        StringBuilder b = new StringBuilder();
        for (int i = below(below(6) == 0 ? 42 : 12); i > 0; i--) {
            String name = "w" + (char) ('a' + below(7));
            String[] lines = {"tick;", "move " + name + " " + (1 + below(2)) + ";", "shut " + name + ";",
                "open " + name + ";"};
            b.append(pick(lines));
        }
        return b.toString();
    }

    private String wish() {
        StringBuilder b = new StringBuilder();
        for (int i = below(below(6) == 0 ? 9 : 5); i >= 0; i--) {
            b.append("c").append((char) ('a' + below(3))).append(' ');
        }
        return b.toString();
    }

    private void due(String call, int got, int want) {
        trace.append(call).append(" -> ").append(want).append('\n');
        if (got != want) {
            System.out.println(trace);
        }
        check.due(call, got, want);
        if (got != want) {
            check.end();
        }
    }

    private static int bit(boolean b) {
        return b ? 1 : 0;
    }

    private void feed(String text) {
        for (int i = 0; i < text.length(); i += 24) {
            long[] rows = new long[3];
            for (int k = 0; k < 24; k++) {
                rows[k / 8] = rows[k / 8] << 8 | (i + k < text.length() ? text.charAt(i + k) : 0);
            }
            due("feed", x.feed(rows[0], rows[1], rows[2]), m.feed(rows[0], rows[1], rows[2]));
        }
        trace.append("text: ").append(text).append('\n');
    }

    private int near(int low, int high) {
        int k = below(12);
        return k == 0 ? low - 1 : k == 1 ? high + 1 : k == 2 && below(3) == 0 ? random.nextInt() : low + below(high - low + 1);
    }

    private void hand() {
        int w = near(0, 6);
        int step = near(0, 3);
        switch (below(6)) {
            case 0:
                due("tick()", x.tick(), m.tick());
                break;
            case 1:
                due("move " + w + " " + step, x.move(w, step), m.move(w, step));
                break;
            case 2:
                due("shut " + w, bit(x.shut(w)), bit(m.shut(w)));
                break;
            case 3:
                due("open " + w, bit(x.open(w)), bit(m.open(w)));
                break;
            case 4:
                due("undo", bit(x.undo()), bit(m.undo()));
                break;
            default:
                boolean back = below(2) == 0;
                int mark = near(0, 3);
                due("mark " + mark + back, bit(x.mark(mark, back)), bit(m.mark(mark, back)));
                break;
        }
    }

    private void tell() {
        switch (below(12)) {
            case 0:
                feed(spoiled(square()));
                due("square", x.square(), m.square());
                break;
            case 1:
            case 2:
            case 3:
            case 4:
                feed(spoiled(day()));
                due("day", x.day(), m.day());
                break;
            case 5:
            case 6:
            case 7:
            case 8:
                feed(spoiled(wish()));
                due("wish", x.wish(), m.wish());
                break;
            case 9:
                long a = random.nextLong();
                due("feed " + a, x.feed(a, ~a, a * 31), m.feed(a, ~a, a * 31));
                break;
            default:
                int place = near(0, 9);
                int ticks = near(0, 40);
                boolean there = below(3) == 0;
                due("see " + place + " " + ticks + there, bit(x.see(place, ticks, there)), bit(m.see(place, ticks, there)));
                break;
        }
    }

    private void askParts() {
        int s = near(0, 3);
        int i = near(0, 6);
        int k = near(0, 6);
        due("ways " + s, x.ways(s), m.ways(s));
        due("sorts " + s + " " + i + " " + k, x.sorts(s, i, k), m.sorts(s, i, k));
        if (m.ways(s) < 3000) {
            due("depth " + s, x.depth(s), m.depth(s));
            for (int r = -1; r < 7; r++) {
                due("tree " + s + " " + r, x.tree(s, r), m.tree(s, r));
            }
        }
        due("read " + i, x.read(i), m.read(i));
        int what = near(0, 5);
        due("walker " + i + " " + what, x.walker(i, what), m.walker(i, what));
    }

    private void askMore() {
        due("said", x.said(), m.said());
        due("keys", x.keys(), m.keys());
        due("least", x.least(), m.least());
        due("wished", x.wished(), m.wished());
        for (int i = -2; i < 8; i++) {
            due("steps " + i, x.steps(i), m.steps(i));
        }
        due("colours", x.colours(), m.colours());
        due("answer", x.answer(), m.answer());
        due("who", x.who(), m.who());
        due("ask", x.ask(), m.ask());
        int odds = near(0, 10);
        due("chance " + odds, x.chance(odds), m.chance(odds));
        int what = near(0, 2);
        due("judged " + what, x.judged(what), m.judged(what));
        int w = near(0, 6);
        int ticks = near(0, 60);
        due("later " + w + " " + ticks, x.later(w, ticks), m.later(w, ticks));
        for (int i = -1; i < 15; i++) {
            due("count " + i, x.count(i), m.count(i));
        }
    }

    private void askLong() {
        due("when", x.when(), m.when());
        due("most", x.most(), m.most());
        int ticks = near(1, 60);
        due("talk " + ticks, x.talk(ticks), m.talk(ticks));
        int seed = near(0, 9999);
        int days = near(1, 99);
        for (int i = -1; i < 4; i++) {
            due("days " + seed + " " + days + " " + i, x.days(seed, days, i), m.days(seed, days, i));
        }
    }

    private void run() {
        x = new RainGrammar();
        m = new Model();
        trace = new StringBuilder();
        feed(below(12) == 0 ? spoiled(square()) : square());
        due("square", x.square(), m.square());
        for (int i = 0; i < 25; i++) {
            hand();
            if (below(3) == 0) {
                tell();
            }
            askParts();
            if (i % 5 == 0) {
                askMore();
            }
        }
        askLong();
    }

    private void faults() {
        x = new RainGrammar();
        m = new Model();
        for (int i = 0; i < 60; i++) {
            trace = new StringBuilder();
            feed(spoiled(square()));
            due("square", x.square(), m.square());
            feed(spoiled(day()));
            due("day", x.day(), m.day());
            feed(spoiled(wish()));
            due("wish", x.wish(), m.wish());
            StringBuilder soup = new StringBuilder();
            for (int k = below(12); k >= 0; k--) {
                soup.append(pick(ODDS)).append(below(2) == 0 ? " " : "");
            }
            feed("reads " + soup);
            due("square", x.square(), m.square());
            feed("reads " + expr(0) + ";");
            due("square", x.square(), m.square());
        }
    }

    private void blinds() {
        trace = new StringBuilder();
        x = new RainGrammar();
        m = new Model();
        for (int i = -2; i < 131; i++) {
            due("code " + i, x.code(i), m.code(i));
            due("amiss " + i, x.amiss(i), m.amiss(i));
            due("blind " + i, x.blind(i), m.blind(i));
        }
        for (int i = 0; i < 12 * 12 * 12 * 7; i++) {
            int a = i % 12 - 1;
            int b = i / 12 % 12 - 1;
            int c = i / 144 % 12 - 1;
            int what = i / 1728 - 2;
            int want;
            try {
                want = m.rests(a, b, c, what);
            } catch (NoSuchElementException e) {
                want = -99;
            }
            due("rests " + a + " " + b + " " + c + " " + what, Check.rests(x, a, b, c, what), want);
        }
    }

    public static void main(String[] args) {
        int runs = args.length > 0 ? Integer.parseInt(args[0]) : 150;
        ModelTest t = new ModelTest(args.length > 1 ? Long.parseLong(args[1]) : 20261118L);
        t.blinds();
        for (int i = 0; i < runs; i++) {
            t.run();
            t.faults();
        }
        t.check.end();
    }
}
