import java.util.ArrayDeque;
import java.util.ArrayList;
import java.util.Arrays;
import java.util.Collections;
import java.util.HashMap;
import java.util.List;
import java.util.Map;
import java.util.NoSuchElementException;
import java.util.Set;
import java.util.function.IntUnaryOperator;
import java.util.regex.Matcher;
import java.util.regex.Pattern;

/** The document once more, slow and by the letter, to hold the program against. */
final class Model {
    private static final Set<String> KEPT = Set.of("sort", "colour", "as", "rule", "is", "says", "walker", "at",
        "goes", "gusts", "reads", "tick", "move", "shut", "open", "plain", "bare", "lover", "bent", "not", "and",
        "or");
    private static final List<String> KINDS = List.of("plain", "bare", "lover", "bent");
    private static final Pattern TOKEN = Pattern.compile("[a-z]+|[0-9]+|[^ \n]");

    static final class Fault extends RuntimeException {
        final int number;

        Fault(int kind, int place) {
            number = kind + 16 * place;
        }
    }

    static final class Token {
        final String text;
        final int place;

        Token(String text, int place) {
            this.text = text;
            this.place = place;
        }

        boolean isNone() {
            return text.matches("[a-z]{9,}|[0-9]{5,}|[^a-z0-9()<=+*;-]");
        }

        boolean isName() {
            return text.matches("[a-z]{1,8}") && !KEPT.contains(text);
        }

        boolean isNumber() {
            return text.matches("[0-9]{1,4}");
        }

        int number() {
            return Integer.parseInt(text);
        }

        Fault fault(int kind) {
            return new Fault(kind, place);
        }
    }

    /** A fact's value by its name. */
    interface Facts {
        int of(String fact);
    }

    interface Expr {
        int value(Facts facts);
    }

    static final class Walker {
        String name;
        int kind;
        int colour;
        int start;
        List<Integer> steps = new ArrayList<>();
    }

    static final class Square {
        List<String> sorts = new ArrayList<>();
        List<String> colours = new ArrayList<>();
        List<Integer> colourSorts = new ArrayList<>();
        List<List<Integer>> rules = new ArrayList<>();
        int says = -1;
        List<Walker> walkers = new ArrayList<>();
        List<Integer> gusts;
        Expr reads;

        int goal() {
            return says < 0 ? 0 : says;
        }

        boolean told(String name) {
            return sorts.contains(name) || colours.contains(name) || walker(name) >= 0;
        }

        int walker(String name) {
            for (int i = 0; i < walkers.size(); i++) {
                if (walkers.get(i).name.equals(name)) {
                    return i;
                }
            }
            return -1;
        }
    }

    static final class State {
        int tick;
        int[] places;
        boolean[] open;

        State copy() {
            State s = new State();
            s.tick = tick;
            s.places = places.clone();
            s.open = open.clone();
            return s;
        }
    }

    static final class Told {
        List<int[]> day = List.of();
        List<Integer> wish = List.of();
        List<int[]> seen = List.of();

        Told copy() {
            Told t = new Told();
            t.day = day;
            t.wish = wish;
            t.seen = seen;
            return t;
        }
    }

    private final StringBuilder tape = new StringBuilder();
    private Square sq = new Square();
    private State now = beginning();
    private Told told = new Told();
    private final ArrayDeque<State> past = new ArrayDeque<>();
    private final State[] markStates = new State[4];
    private final Told[] markTold = new Told[4];
    private List<Token> tokens;
    private int at;

    private State beginning() {
        State s = new State();
        s.places = sq.walkers.stream().mapToInt(w -> w.start).toArray();
        s.open = new boolean[sq.walkers.size()];
        Arrays.fill(s.open, true);
        return s;
    }

    int feed(long a, long b, long c) {
        for (long row : new long[] {a, b, c}) {
            for (int i = 7; i >= 0; i--) {
                int sign = (int) (row >>> (8 * i)) & 255;
                if ((sign == 10 || sign >= 32 && sign <= 126) && tape.length() < 1000) {
                    tape.append((char) sign);
                }
            }
        }
        return tape.length();
    }

    private void scan() {
        tokens = new ArrayList<>();
        at = 0;
        Matcher m = TOKEN.matcher(tape);
        while (m.find()) {
            tokens.add(new Token(m.group(), m.start()));
        }
        tokens.add(new Token("", tape.length()));
        tape.setLength(0);
    }

    private Token look() {
        return tokens.get(at);
    }

    private boolean is(String text) {
        return look().text.equals(text);
    }

    private Token take() {
        return tokens.get(at++);
    }

    private void must(String text) {
        if (!is(text)) {
            throw look().fault(1);
        }
        at++;
    }

    private String newName(Square s) {
        Token t = take();
        if (!t.isName()) {
            throw t.fault(1);
        }
        if (s.told(t.text)) {
            throw t.fault(3);
        }
        return t.text;
    }

    private int oldName(List<String> names) {
        Token t = look();
        if (!t.isName()) {
            throw t.fault(1);
        }
        if (!names.contains(t.text)) {
            throw t.fault(2);
        }
        at++;
        return names.indexOf(t.text);
    }

    private int number(int least, int most) {
        Token t = look();
        if (!t.isNumber()) {
            throw t.fault(1);
        }
        if (t.number() < least || t.number() > most) {
            throw t.fault(4);
        }
        at++;
        return t.number();
    }

    private List<Integer> numbers(int room, int most) {
        List<Integer> row = new ArrayList<>();
        do {
            Token t = look();
            int n = number(0, most);
            if (row.size() == room) {
                throw t.fault(5);
            }
            row.add(n);
        } while (look().isNumber());
        return row;
    }

    int square() {
        scan();
        try {
            Square s = new Square();
            while (!look().text.isEmpty()) {
                line(s);
                must(";");
            }
            sq = s;
            now = beginning();
            told = new Told();
            past.clear();
            Arrays.fill(markStates, null);
            return 0;
        } catch (Fault f) {
            return f.number;
        }
    }

    private void room(Token t, int size, int most) {
        if (size >= most) {
            throw t.fault(5);
        }
    }

    private void once(Token t, boolean before) {
        if (before) {
            throw t.fault(3);
        }
    }

    private void line(Square s) {
        Token t = take();
        switch (t.text) {
            case "sort":
                room(t, s.sorts.size(), 6);
                s.sorts.add(newName(s));
                break;
            case "colour":
                room(t, s.colours.size(), 6);
                String colour = newName(s);
                must("as");
                s.colourSorts.add(oldName(s.sorts));
                s.colours.add(colour);
                break;
            case "rule":
                room(t, s.rules.size(), 12);
                int made = oldName(s.sorts);
                must("is");
                int first = oldName(s.sorts);
                Token last = look();
                List<Integer> rule = List.of(made, first, oldName(s.sorts));
                if (s.rules.contains(rule)) {
                    throw last.fault(3);
                }
                s.rules.add(rule);
                break;
            case "says":
                once(t, s.says >= 0);
                s.says = oldName(s.sorts);
                break;
            case "walker":
                room(t, s.walkers.size(), 7);
                s.walkers.add(walker(s));
                break;
            case "gusts":
                once(t, s.gusts != null);
                s.gusts = numbers(8, 10);
                break;
            case "reads":
                once(t, s.reads != null);
                s.reads = expr(0);
                break;
            default:
                throw t.fault(1);
        }
    }

    private Walker walker(Square s) {
        Walker w = new Walker();
        w.name = newName(s);
        Token kind = take();
        w.kind = KINDS.indexOf(kind.text);
        if (w.kind < 0) {
            throw kind.fault(1);
        }
        w.colour = oldName(s.colours);
        must("at");
        w.start = number(0, 9);
        must("goes");
        w.steps = numbers(6, 2);
        return w;
    }

    private Expr expr(int depth) {
        Expr left = test(depth);
        while (is("and") || is("or")) {
            boolean and = take().text.equals("and");
            Expr a = left;
            Expr b = test(depth);
            left = f -> {
                boolean x = a.value(f) != 0;
                boolean y = b.value(f) != 0;
                return (and ? x && y : x || y) ? 1 : 0;
            };
        }
        return left;
    }

    private Expr test(int depth) {
        Expr a = sum(depth);
        if (is("<")) {
            at++;
            Expr b = sum(depth);
            return f -> a.value(f) < b.value(f) ? 1 : 0;
        }
        if (is("=")) {
            at++;
            Expr b = sum(depth);
            return f -> a.value(f) == b.value(f) ? 1 : 0;
        }
        return a;
    }

    private Expr sum(int depth) {
        Expr left = product(depth);
        while (is("+") || is("-")) {
            int sign = take().text.equals("+") ? 1 : -1;
            Expr a = left;
            Expr b = product(depth);
            left = f -> a.value(f) + sign * b.value(f);
        }
        return left;
    }

    private Expr product(int depth) {
        Expr left = part(depth);
        while (is("*")) {
            at++;
            Expr a = left;
            Expr b = part(depth);
            left = f -> a.value(f) * b.value(f);
        }
        return left;
    }

    private Expr part(int depth) {
        Token t = take();
        boolean fact = Set.of("spot", "crowd", "hour", "first").contains(t.text);
        if (!t.isNumber() && !fact && !t.text.equals("not") && !t.text.equals("(")) {
            throw t.fault(1);
        }
        if (depth == 5) {
            throw t.fault(5);
        }
        if (t.isNumber()) {
            return f -> t.number();
        }
        if (fact) {
            return f -> f.of(t.text);
        }
        if (t.text.equals("not")) {
            Expr a = part(depth + 1);
            return f -> a.value(f) == 0 ? 1 : 0;
        }
        Expr inner = expr(depth + 1);
        must(")");
        return inner;
    }

    int day() {
        scan();
        try {
            List<int[]> lines = new ArrayList<>();
            while (!look().text.isEmpty()) {
                Token t = take();
                int kind = List.of("tick", "move", "shut", "open").indexOf(t.text);
                if (kind < 0) {
                    throw t.fault(1);
                }
                room(t, lines.size(), 40);
                List<String> names = sq.walkers.stream().map(w -> w.name).toList();
                int walker = kind == 0 ? 0 : oldName(names);
                lines.add(new int[] {kind, walker, kind == 1 ? number(1, 2) : 0});
                must(";");
            }
            told.day = lines;
            return 0;
        } catch (Fault f) {
            return f.number;
        }
    }

    int wish() {
        scan();
        try {
            List<Integer> names = new ArrayList<>();
            do {
                Token t = look();
                int colour = oldName(sq.colours);
                room(t, names.size(), 7);
                names.add(colour);
            } while (!look().text.isEmpty());
            told.wish = names;
            return 0;
        } catch (Fault f) {
            return f.number;
        }
    }

    private int n() {
        return sq.walkers.size();
    }

    private boolean has(int walker) {
        return walker >= 0 && walker < n();
    }

    private int gust(int tick) {
        return sq.gusts == null ? 10 : sq.gusts.get(tick % sq.gusts.size());
    }

    private int step(int walker, int tick) {
        List<Integer> steps = sq.walkers.get(walker).steps;
        return steps.get(tick % steps.size());
    }

    private static int gone(int place, int step) {
        int to = step == 1 ? place + 1 : step == 2 ? place - 1 : place;
        return to < 0 || to > 9 ? place : to;
    }

    private void pass(State s) {
        for (int w = 0; w < n(); w++) {
            s.places[w] = gone(s.places[w], step(w, s.tick));
        }
        s.tick++;
    }

    private State after(int ticks) {
        State s = now.copy();
        for (int i = 0; i < ticks; i++) {
            pass(s);
        }
        return s;
    }

    private int shows(int w) {
        Walker x = sq.walkers.get(w);
        return x.kind == 1 ? 6 : x.kind == 3 ? (x.colour + 1) % sq.colours.size() : x.colour;
    }

    private int law(State s, int w) {
        Facts facts = fact -> {
            int others = 0;
            int first = 1;
            for (int o = 0; o < n(); o++) {
                if (o != w && s.places[o] == s.places[w]) {
                    others++;
                    first = o < w ? 0 : first;
                }
            }
            return fact.equals("spot") ? s.places[w] : fact.equals("crowd") ? others
                : fact.equals("hour") ? s.tick : first;
        };
        return sq.reads == null ? facts.of("first") : sq.reads.value(facts);
    }

    private List<Integer> readers(State s, int gust) {
        List<Integer> row = new ArrayList<>();
        for (int place = 0; place < 10; place++) {
            for (int w = 0; w < n(); w++) {
                boolean shy = false;
                for (int o = 0; o < n(); o++) {
                    shy |= o != w && s.places[o] == place && sq.walkers.get(o).kind == 2 && sq.walkers.get(w).kind == 2;
                }
                if (s.places[w] == place && s.open[w] && place != gust && !shy && law(s, w) != 0) {
                    row.add(w);
                }
            }
        }
        return row;
    }

    private List<List<Integer>> sentences(State s, int gust) {
        List<List<Integer>> all = new ArrayList<>();
        List<Integer> one = new ArrayList<>();
        for (int w : readers(s, gust)) {
            if (shows(w) != 6) {
                one.add(shows(w));
            } else {
                if (!one.isEmpty()) {
                    all.add(one);
                }
                one = new ArrayList<>();
            }
        }
        if (!one.isEmpty()) {
            all.add(one);
        }
        return all;
    }

    private List<List<Integer>> sentences() {
        return sentences(now, gust(now.tick));
    }

    private final Map<List<Integer>, Integer> memo = new HashMap<>();

    private int ways(List<Integer> colours, int sort) {
        if (sort < 0 || colours.isEmpty()) {
            return 0;
        }
        memo.clear();
        return waysOf(colours, sort);
    }

    private int waysOf(List<Integer> colours, int sort) {
        if (colours.size() == 1) {
            return sq.colourSorts.get(colours.get(0)) == sort ? 1 : 0;
        }
        List<Integer> key = new ArrayList<>(colours);
        key.add(sort);
        Integer known = memo.get(key);
        if (known != null) {
            return known;
        }
        int sum = 0;
        for (List<Integer> r : sq.rules) {
            for (int k = 1; r.get(0) == sort && k < colours.size(); k++) {
                sum += waysOf(colours.subList(0, k), r.get(1)) * waysOf(colours.subList(k, colours.size()), r.get(2));
            }
        }
        memo.put(key, sum);
        return sum;
    }

    /** Every tree: its depth, then its rules. */
    private List<List<Integer>> trees(List<Integer> colours, int sort) {
        List<List<Integer>> all = new ArrayList<>();
        if (colours.size() == 1) {
            if (sq.colourSorts.get(colours.get(0)) == sort) {
                all.add(List.of(0));
            }
            return all;
        }
        for (int r = 0; r < sq.rules.size(); r++) {
            List<Integer> rule = sq.rules.get(r);
            for (int k = 1; rule.get(0) == sort && k < colours.size(); k++) {
                List<List<Integer>> rights = trees(colours.subList(k, colours.size()), rule.get(2));
                if (rights.isEmpty()) {
                    continue;
                }
                for (List<Integer> a : trees(colours.subList(0, k), rule.get(1))) {
                    for (List<Integer> b : rights) {
                        List<Integer> t = new ArrayList<>();
                        t.add(1 + Math.max(a.get(0), b.get(0)));
                        t.add(r);
                        t.addAll(a.subList(1, a.size()));
                        t.addAll(b.subList(1, b.size()));
                        all.add(t);
                    }
                }
            }
        }
        return all;
    }

    private int said(State s, int gust) {
        return (int) sentences(s, gust).stream().filter(x -> ways(x, sq.goal()) > 0).count();
    }

    private int said(State s) {
        return said(s, gust(s.tick));
    }

    private int bits(State s) {
        int bits = 0;
        for (int w = 0; w < n(); w++) {
            bits += s.open[w] ? 1 << w : 0;
        }
        return bits;
    }

    int walker(int w, int what) {
        if (!has(w) || what < 0 || what > 5) {
            return -2;
        }
        int[] row = {sq.walkers.get(w).kind, sq.walkers.get(w).colour, now.places[w], now.open[w] ? 1 : 0,
            step(w, now.tick), readers(now, gust(now.tick)).contains(w) ? 1 : 0};
        return row[what];
    }

    int read(int i) {
        List<Integer> row = readers(now, gust(now.tick));
        return i < 0 || i >= row.size() ? -1 : shows(row.get(i));
    }

    private void keep() {
        past.addLast(now.copy());
        if (past.size() > 16) {
            past.removeFirst();
        }
    }

    int tick() {
        keep();
        pass(now);
        return said(now);
    }

    private boolean obey(State s, int kind, int walker, int step) {
        if (kind == 0) {
            pass(s);
            return true;
        }
        if (!has(walker)) {
            return false;
        }
        if (kind == 1) {
            int to = step == 1 || step == 2 ? gone(s.places[walker], step) : s.places[walker];
            boolean can = to != s.places[walker];
            s.places[walker] = to;
            return can;
        }
        boolean can = s.open[walker] == (kind == 2);
        s.open[walker] = kind == 3;
        return can;
    }

    private boolean byHand(int kind, int walker, int step) {
        if (!obey(now.copy(), kind, walker, step)) {
            return false;
        }
        keep();
        return obey(now, kind, walker, step);
    }

    int move(int walker, int step) {
        return byHand(1, walker, step) ? now.places[walker] : -1;
    }

    boolean shut(int walker) {
        return byHand(2, walker, 0);
    }

    boolean open(int walker) {
        return byHand(3, walker, 0);
    }

    boolean undo() {
        if (past.isEmpty()) {
            return false;
        }
        now = past.removeLast();
        return true;
    }

    int judged(int what) {
        State s = beginning();
        int bad = -1;
        int first = -1;
        for (int i = 0; i < told.day.size(); i++) {
            int[] line = told.day.get(i);
            if (!obey(s, line[0], line[1], line[2]) && bad < 0) {
                bad = i;
            }
            if (first < 0 && said(s) > 0) {
                first = i;
            }
        }
        return what == 0 ? bad : what == 1 ? first : what == 2 ? said(s) : -2;
    }

    int said() {
        return said(now);
    }

    private boolean hasSentence(int i) {
        return i >= 0 && i < sentences().size();
    }

    int ways(int i) {
        return hasSentence(i) ? ways(sentences().get(i), sq.goal()) : -1;
    }

    int sorts(int i, int from, int to) {
        if (!hasSentence(i) || from < 0 || to < from || to >= sentences().get(i).size()) {
            return -1;
        }
        int bits = 0;
        for (int s = 0; s < sq.sorts.size(); s++) {
            bits |= ways(sentences().get(i).subList(from, to + 1), s) > 0 ? 1 << s : 0;
        }
        return bits;
    }

    private List<Integer> firstTree(int i) {
        if (!hasSentence(i) || ways(i) == 0) {
            return null;
        }
        List<List<Integer>> all = trees(sentences().get(i), sq.goal());
        return Collections.min(all, (a, b) -> {
            for (int k = 0; k < a.size(); k++) {
                int c = a.get(k) - b.get(k);
                if (c != 0) {
                    return c;
                }
            }
            return 0;
        });
    }

    int depth(int i) {
        List<Integer> t = firstTree(i);
        return t == null ? -1 : t.get(0);
    }

    int tree(int i, int k) {
        List<Integer> t = firstTree(i);
        return t == null || k < 0 || k + 1 >= t.size() || k + 1 < 1 ? -1 : t.get(k + 1);
    }

    int keys() {
        int bits = 0;
        for (int w = 0; w < n(); w++) {
            if (now.open[w]) {
                State s = now.copy();
                s.open[w] = false;
                bits |= said(s) != said(now) ? 1 << w : 0;
            }
        }
        return bits;
    }

    int least() {
        int best = -1;
        for (int set = 0; set < 1 << n(); set++) {
            if ((set & ~bits(now)) != 0) {
                continue;
            }
            State s = now.copy();
            for (int w = 0; w < n(); w++) {
                s.open[w] &= (set >> w & 1) == 0;
            }
            List<List<Integer>> all = sentences(s, gust(s.tick));
            if (all.size() == 1 && ways(all.get(0), sq.goal()) == 1
                && (best < 0 || Integer.bitCount(set) < Integer.bitCount(best))) {
                best = set;
            }
        }
        return best;
    }

    int later(int w, int ticks) {
        return !has(w) || ticks < 0 || ticks > 60 ? -1 : after(ticks).places[w];
    }

    int when() {
        for (int t = 0; t <= 60; t++) {
            if (said(after(t)) > 0) {
                return t;
            }
        }
        return -1;
    }

    int most() {
        int best = 0;
        for (int t = 0; t <= 60; t++) {
            best = said(after(t)) > said(after(best)) ? t : best;
        }
        return best;
    }

    int talk(int ticks) {
        int sum = 0;
        for (int t = 1; t <= ticks && ticks <= 60; t++) {
            sum += said(after(t));
        }
        return ticks < 1 || ticks > 60 ? -1 : sum;
    }

    int wished() {
        return told.wish.isEmpty() ? -1 : ways(told.wish, sq.goal());
    }

    private int fewest;
    private int[] fewestRow;

    private void place(int[] row, int i, int from, int cost) {
        if (i == told.wish.size()) {
            if (cost < fewest || cost == fewest && Arrays.compare(row, fewestRow) < 0) {
                fewest = cost;
                fewestRow = row.clone();
            }
            return;
        }
        for (int w = 0; w < n(); w++) {
            boolean used = false;
            for (int k = 0; k < i; k++) {
                used |= row[k] == w;
            }
            if (used || shows(w) != told.wish.get(i)) {
                continue;
            }
            row[i] = w;
            for (int p = from; p < 10; p++) {
                place(row, i + 1, p + 1, cost + Math.abs(now.places[w] - p));
            }
        }
    }

    int steps(int what) {
        if (told.wish.isEmpty() || what < -1) {
            return -2;
        }
        fewest = 1000;
        fewestRow = null;
        place(new int[told.wish.size()], 0, 0, 0);
        if (fewestRow == null || what >= told.wish.size()) {
            return -2;
        }
        return what == -1 ? fewest : fewestRow[what];
    }

    int colours() {
        int bits = 0;
        for (List<Integer> s : sentences()) {
            for (int c : s) {
                bits |= 1 << c;
            }
        }
        return bits;
    }

    private static int xor(int slats) {
        int x = 0;
        for (int i = 1; i <= 7; i++) {
            x ^= (slats >> (i - 1) & 1) == 1 ? i : 0;
        }
        return x;
    }

    private static int value(int slats) {
        return (slats >> 2 & 1) + 2 * (slats >> 4 & 1) + 4 * (slats >> 5 & 1) + 8 * (slats >> 6 & 1);
    }

    int code(int value) {
        for (int slats = 0; slats < 128; slats++) {
            if (xor(slats) == 0 && value(slats) == value) {
                return slats;
            }
        }
        return -1;
    }

    int amiss(int slats) {
        return slats < 0 || slats > 127 ? -1 : xor(slats);
    }

    int blind(int slats) {
        if (slats < 0 || slats > 127) {
            return -1;
        }
        for (int i = -1; i < 7; i++) {
            int right = i < 0 ? slats : slats ^ 1 << i;
            if (xor(right) == 0) {
                return value(right);
            }
        }
        return -7;
    }

    int answer() {
        return code(said());
    }

    boolean see(int place, int ticks, boolean there) {
        if (place < 0 || place > 9 || ticks < 0 || ticks > 40 || told.seen.size() == 8) {
            return false;
        }
        told.seen = new ArrayList<>(told.seen);
        told.seen.add(new int[] {place, ticks, there ? 1 : 0});
        return true;
    }

    int who() {
        int bits = 0;
        for (int w = 0; w < n(); w++) {
            boolean fits = true;
            for (int[] s : told.seen) {
                fits &= (after(s[1]).places[w] == s[0]) == (s[2] == 1);
            }
            bits |= fits ? 1 << w : 0;
        }
        return bits;
    }

    int ask() {
        int who = who();
        int best = -1;
        int least = Integer.bitCount(who);
        for (int t = 0; t <= 40; t++) {
            State s = after(t);
            for (int p = 0; p < 10; p++) {
                int there = 0;
                int not = 0;
                for (int w = 0; w < n(); w++) {
                    if ((who >> w & 1) == 1) {
                        there += s.places[w] == p ? 1 : 0;
                        not += s.places[w] == p ? 0 : 1;
                    }
                }
                if (Math.max(there, not) < least) {
                    least = Math.max(there, not);
                    best = 10 * t + p;
                }
            }
        }
        return best;
    }

    int chance(int odds) {
        if (odds < 0 || odds > 10) {
            return -1;
        }
        long hundredths = 0;
        for (int g = 0; g < 10; g++) {
            hundredths += said(now, g) > 0 ? 10 - odds : 0;
            hundredths += said(now, 10) > 0 ? odds : 0;
        }
        return (int) (hundredths * 1000000 / 100);
    }

    int rests(int lose, int tilts, int stays, int what) {
        for (int v : new int[] {lose, tilts, stays}) {
            if (v < 0 || v > 9) {
                throw new NoSuchElementException();
            }
        }
        int[][] gets = {{0, stays}, {tilts, -lose}};
        List<Integer> all = new ArrayList<>();
        for (int a = 0; a < 2; a++) {
            for (int b = 0; b < 2; b++) {
                if (gets[1 - a][b] <= gets[a][b] && gets[1 - b][a] <= gets[b][a]) {
                    all.add(2 * a + b);
                }
            }
        }
        if (what < -1 || what >= all.size()) {
            throw new NoSuchElementException();
        }
        return what == -1 ? all.size() : all.get(what);
    }

    int days(int seed, int ticks, int what) {
        if (seed < 0 || seed > 9999 || ticks < 1 || ticks > 99 || what < 0 || what > 2) {
            return -1;
        }
        long[] g = {seed};
        IntUnaryOperator draw = m -> {
            g[0] = (g[0] * 1103515245L + 12345L) % 2147483648L;
            return (int) (g[0] / 65536 % m);
        };
        State s = now.copy();
        int sum = 0;
        for (int t = 0; t < ticks; t++) {
            if (n() > 0) {
                int w = draw.applyAsInt(n());
                int deed = draw.applyAsInt(6);
                if (deed < 3) {
                    obey(s, deed + 1, w, deed == 0 ? draw.applyAsInt(2) + 1 : 0);
                }
            }
            pass(s);
            sum += said(s);
        }
        return what == 0 ? sum : what == 1 ? bits(s) : Arrays.stream(s.places).sum();
    }

    boolean mark(int mark, boolean back) {
        if (mark < 0 || mark > 3 || back && markStates[mark] == null) {
            return false;
        }
        if (back) {
            now = markStates[mark].copy();
            told = markTold[mark].copy();
            past.clear();
        } else {
            markStates[mark] = now.copy();
            markTold[mark] = told.copy();
        }
        return true;
    }

    int count(int what) {
        int[] row = {sq.sorts.size(), sq.colours.size(), sq.rules.size(), n(), now.tick, gust(now.tick),
            sentences().size(), readers(now, gust(now.tick)).size(), bits(now), told.day.size(), told.wish.size(),
            told.seen.size(), past.size(), tape.length()};
        return what < 0 || what >= row.length ? -1 : row[what];
    }
}
