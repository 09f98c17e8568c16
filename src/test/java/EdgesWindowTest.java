import java.util.NoSuchElementException;

/** Each sentence of promises 28 to 37 that names a boundary case, with a test of its own. */
public final class EdgesWindowTest {
    private static final Check CHECK = new Check("EdgesWindowTest");
    private static final String GRAMMAR = "sort n;sort v;sort s;colour red as n;colour blue as v;rule s is n v;says s;";
    private static final String REDS = "sort n;colour red as n;says n;";
    private static final int THROWN = -99;
    private static final int[] CODES = {0, 7, 25, 30, 42, 45, 51, 52, 75, 76, 82, 85, 97, 102, 120, 127};

    private static String w(String name, String kind, String colour, int place, String steps) {
        return "walker " + name + " " + kind + " " + colour + " at " + place + " goes " + steps + ";";
    }

    private static String red(String name, int place, String steps) {
        return w(name, "plain", "red", place, steps);
    }

    private static void code() {
        RainGrammar x = new RainGrammar();
        CHECK.about("CODE: A VALUE (0 to 15) is shown by the slats 3, 5, 6, 7 .. the numbers of all that are up make 0");
        for (int value = 0; value <= 15; value++) {
            CHECK.due("code " + value, x.code(value), CODES[value]);
        }
        CHECK.about("code: NONE: others");
        for (int value : new int[] {-1, -2, 16, 17, 31, 127, Integer.MIN_VALUE, Integer.MAX_VALUE}) {
            CHECK.due("code " + value, x.code(value), -1);
        }
    }

    private static void amiss() {
        RainGrammar x = new RainGrammar();
        CHECK.about("AMISS of slats: that exclusive or (0: none is wrong)");
        for (int slats = 0; slats <= 127; slats++) {
            int due = 0;
            for (int slat = 1; slat <= 7; slat++) {
                due = (slats >> (slat - 1)) % 2 == 1 ? due ^ slat : due;
            }
            CHECK.due("amiss " + slats, x.amiss(slats), due);
        }
        CHECK.due("the seventh alone", x.amiss(64), 7);
        CHECK.due("the first alone", x.amiss(1), 1);
        CHECK.due("all", x.amiss(127), 0);
        CHECK.about("amiss: (0 to 127); NONE: others");
        for (int slats : new int[] {-1, -2, 128, 129, 255, Integer.MIN_VALUE, Integer.MAX_VALUE}) {
            CHECK.due("amiss " + slats, x.amiss(slats), -1);
        }
    }

    private static void blind() {
        RainGrammar x = new RainGrammar();
        CHECK.about("BLIND: the VALUE that slats show if the wrong one is set right");
        for (int value = 0; value <= 15; value++) {
            CHECK.due("none is wrong, " + value, x.blind(CODES[value]), value);
            for (int slat = 0; slat < 7; slat++) {
                CHECK.due("wrong slat " + (slat + 1) + " of " + value, x.blind(CODES[value] ^ (1 << slat)), value);
            }
        }
        CHECK.about("blind: (0 to 127); NONE: others");
        for (int slats : new int[] {-1, -2, 128, 129, 255, Integer.MIN_VALUE, Integer.MAX_VALUE}) {
            CHECK.due("blind " + slats, x.blind(slats), -1);
        }
    }

    private static void answer() {
        CHECK.about("ANSWER: the CODE of how many SENTENCES are SAID");
        RainGrammar x = Check.on(REDS + red("a", 0, "0") + w("b", "bare", "red", 1, "0") + red("c", 2, "0")
            + w("d", "bare", "red", 3, "0") + red("e", 4, "0") + w("f", "bare", "red", 5, "0") + red("g", 6, "0"));
        int[] order = {0, 2, 4, 6};
        for (int said = 4; said > 0; said--) {
            CHECK.due("said " + said, x.answer(), CODES[said]);
            x.shut(order[said - 1]);
        }
        CHECK.due("said 0", x.answer(), 0);
    }

    private static void see() {
        CHECK.about("see: SEEN: true (a PLACE 0 to 9, 0 to 40 TICKS)");
        int[][] good = {{0, 0}, {9, 0}, {0, 40}, {9, 40}};
        for (boolean there : new boolean[] {false, true}) {
            RainGrammar x = Check.on(REDS + red("a", 0, "0"));
            for (int i = 0; i < good.length; i++) {
                CHECK.due("see " + good[i][0] + " " + good[i][1], x.see(good[i][0], good[i][1], there), true);
                CHECK.due("seen", x.count(11), i + 1);
            }
            CHECK.about("see: false: others");
            int[][] wrong = {{-1, 0}, {10, 0}, {0, -1}, {0, 41}, {-1, 41}, {10, -1}, {Integer.MIN_VALUE, 0},
                {Integer.MAX_VALUE, 0}, {0, Integer.MIN_VALUE}, {0, Integer.MAX_VALUE}};
            for (int[] p : wrong) {
                CHECK.due("see " + p[0] + " " + p[1], x.see(p[0], p[1], there), false);
            }
            CHECK.due("four are seen still", x.count(11), 4);
        }
        CHECK.about("see: false: .. 8 there are / 8 at most");
        RainGrammar x = Check.on(REDS + red("a", 0, "0") + red("b", 1, "0"));
        for (int i = 0; i < 8; i++) {
            CHECK.due("the " + i, x.see(5, i, false), true);
        }
        CHECK.due("the ninth", x.see(0, 0, true), false);
        CHECK.due("the tenth", x.see(0, 0, true), false);
        CHECK.due("eight", x.count(11), 8);
        CHECK.due("the ninth parts nobody", x.who(), 3);
        x = new RainGrammar();
        CHECK.due("without a square", x.see(0, 0, true), true);
        CHECK.due("nobody", x.who(), 0);
    }

    private static void who() {
        CHECK.about("WHO: WALKERS by which all SEEN is so (bits)");
        RainGrammar x = Check.on(REDS + Check.times("walker w@ plain red at 3 goes 0;", 7));
        CHECK.due("nothing seen: all seven", x.who(), 127);
        x.see(3, 40, true);
        CHECK.due("all are there", x.who(), 127);
        x.see(4, 0, false);
        CHECK.due("nobody is there", x.who(), 127);
        x.move(6, 1);
        CHECK.due("one has gone", x.who(), 63);
        x.shut(0);
        CHECK.due("shut or not", x.who(), 63);
        x.see(3, 0, false);
        CHECK.due("there and not there", x.who(), 0);
        x = Check.on(REDS + red("a", 0, "1") + red("b", 1, "1"));
        x.see(0, 0, true);
        CHECK.due("at the first place now", x.who(), 1);
        CHECK.about("WHO: behind so many (0 to 40) TICKS, or is not");
        x = Check.on(REDS + red("a", 0, "1 0 0 0 0") + red("b", 8, "0") + red("c", 7, "1 0 2"));
        x.see(8, 40, true);
        CHECK.due("behind 40: a by 8 steps, b, c", x.who(), 7);
        x.see(8, 36, true);
        CHECK.due("behind 36 a is there, c is not", x.who(), 3);
        x.see(7, 35, true);
        CHECK.due("behind 35 a is not yet", x.who(), 1);
        RainGrammar y = Check.on(REDS + red("a", 0, "1") + red("b", 9, "2") + red("c", 5, "0"));
        y.see(9, 40, true);
        CHECK.due("at the last place", y.who(), 1);
        y = Check.on(REDS + red("a", 0, "1") + red("b", 9, "2") + red("c", 5, "0"));
        y.see(0, 40, true);
        CHECK.due("at the first place", y.who(), 2);
        y = Check.on(REDS + red("a", 0, "1") + red("b", 9, "2") + red("c", 5, "0"));
        y.see(9, 0, false);
        y.see(0, 0, false);
        CHECK.due("at neither", y.who(), 4);
    }

    private static int askOf(String... walkers) {
        return Check.on(REDS + String.join("", walkers)).ask();
    }

    private static void ask() {
        CHECK.about("ASK: of equal ones the first by TICKS, then PLACES");
        CHECK.due("the first place", askOf(red("a", 0, "0"), red("b", 9, "0")), 0);
        CHECK.due("the lower place", askOf(red("a", 7, "0"), red("b", 2, "0")), 2);
        CHECK.due("the last place", askOf(red("a", 0, "0"), red("b", 1, "0"), red("c", 9, "0"), red("d", 9, "0")), 9);
        CHECK.due("the first tick", askOf(red("a", 4, "0 1"), red("b", 4, "0 2")), 23);
        CHECK.due("the greater number is the least",
            askOf(red("a", 1, "0"), red("b", 2, "0"), red("c", 3, "1 2"), red("d", 4, "0")), 14);
        CHECK.about("ASK: the number of TICKS (0 to 40)");
        CHECK.due("behind 40", askOf(red("a", 4, "2"), red("b", 3, "0"), red("c", 9, "1 0 0 2 2"), red("d", 8, "1 0 1 2 2"),
            red("e", 6, "2 1 0"), red("f", 1, "0 2 1 2 0 1")), 400);
        CHECK.due("behind 41 is not asked for", askOf(red("a", 3, "0 2 1"), red("b", 0, "1"), red("c", 3, "0 2 2 1"),
            red("d", 3, "2 0"), red("e", 3, "1"), red("f", 0, "1 2 0 1 0")), 0);
        CHECK.about("ask: NONE: none parts them (if that is less than all)");
        CHECK.due("always together", askOf(red("a", 4, "0 1"), red("b", 4, "0 1 0 1")), -1);
        CHECK.due("one", askOf(red("a", 4, "1")), -1);
        CHECK.due("nobody", askOf(), -1);
        CHECK.due("seven together", askOf(Check.times("walker w@ plain red at 9 goes 1;", 7)), -1);
        RainGrammar x = Check.on(REDS + red("a", 0, "0") + red("b", 5, "0") + red("c", 9, "0"));
        CHECK.due("three", x.ask(), 0);
        x.see(0, 0, false);
        CHECK.due("those of WHO alone", x.ask(), 5);
        x.see(5, 0, false);
        CHECK.due("one is left", x.ask(), -1);
        x.see(9, 0, false);
        CHECK.due("nobody is left", x.ask(), -1);
    }

    private static void chance(String what, String square, int none, int half, int all) {
        RainGrammar x = Check.on(square);
        CHECK.due(what + ", odds 0", x.chance(0), none);
        CHECK.due(what + ", odds 5", x.chance(5), half);
        CHECK.due(what + ", odds 10", x.chance(10), all);
        for (int odds = 0; odds <= 10; odds++) {
            CHECK.due(what + ", odds " + odds, x.chance(odds), none / 10 * (10 - odds) + all / 10 * odds);
        }
    }

    private static void chance() {
        CHECK.about("CHANCE: no gust in this tick by odds of ten, else one at one of the ten PLACES, all alike, in millionths");
        String rb = GRAMMAR + red("a", 0, "0") + w("b", "plain", "blue", 9, "0");
        chance("two", rb, 800000, 900000, 1000000);
        chance("never", GRAMMAR + red("a", 0, "0"), 0, 0, 0);
        String three = REDS + red("a", 0, "0") + w("b", "bare", "red", 1, "0") + red("c", 2, "0");
        chance("not by a gust at the stop", three, 900000, 950000, 1000000);
        chance("always", three + w("d", "bare", "red", 3, "0") + red("e", 4, "0"), 1000000, 1000000, 1000000);
        chance("by a gust alone", rb + w("c", "plain", "blue", 8, "0"), 200000, 100000, 0);
        chance("nobody", "", 0, 0, 0);
        CHECK.about("CHANCE: in place of what is told");
        chance("a gust is told", rb + "gusts 0;", 800000, 900000, 1000000);
        chance("by the law", rb + "reads hour=0;", 800000, 900000, 1000000);
        chance("not by the law", rb + "reads hour=1;", 0, 0, 0);
        RainGrammar x = Check.on(rb + "gusts 0;");
        x.chance(0);
        CHECK.due("what is told stays", x.count(5), 0);
        CHECK.due("and is read by", x.said(), 0);
        CHECK.about("chance: by odds (0 to 10); NONE: others");
        for (int odds : new int[] {-1, -2, 11, 12, Integer.MIN_VALUE, Integer.MAX_VALUE}) {
            CHECK.due("odds " + odds, x.chance(odds), -1);
        }
    }

    private static int rests(int lose, int tilts, int stays, int what) {
        return Check.rests(new RainGrammar(), lose, tilts, stays, what);
    }

    private static void rests() {
        CHECK.about("RESTS: by which neither would get more by the other (the least first)");
        for (int i = 0; i < 1000; i++) {
            int lose = i / 100;
            int tilts = i / 10 % 10;
            int stays = i % 10;
            StringBuilder due = new StringBuilder(tilts == 0 ? "012" : "12").append(lose + stays == 0 ? "3" : "");
            String what = "rests " + lose + " " + tilts + " " + stays;
            CHECK.due(what, rests(lose, tilts, stays, -1), due.length());
            for (int k = 0; k < due.length(); k++) {
                CHECK.due(what + ", " + k, rests(lose, tilts, stays, k), due.charAt(k) - '0');
            }
            CHECK.due(what + ", no more", rests(lose, tilts, stays, due.length()), THROWN);
        }
        CHECK.about("rests: NoSuchElementException: others");
        for (int far : new int[] {-1, -2, 10, 11, Integer.MIN_VALUE, Integer.MAX_VALUE}) {
            for (int what = -1; what <= 1; what++) {
                CHECK.due("lose " + far, rests(far, 0, 0, what), THROWN);
                CHECK.due("tilts " + far, rests(0, far, 0, what), THROWN);
                CHECK.due("stays " + far, rests(0, 0, far, what), THROWN);
            }
        }
        CHECK.about("rests: NoSuchElementException: .. none such");
        for (int what : new int[] {4, 5, -2, -3, Integer.MIN_VALUE, Integer.MAX_VALUE}) {
            CHECK.due("what " + what, rests(0, 0, 0, what), THROWN);
        }
        CHECK.about("rests: throws NoSuchElementException (and nothing is done)");
        RainGrammar x = Check.on(REDS + red("a", 0, "1"));
        x.tick();
        String before = Check.state(x);
        boolean thrown = false;
        try {
            x.rests(0, 0, 0, 4);
        } catch (NoSuchElementException e) {
            thrown = e.getClass() == NoSuchElementException.class;
        }
        CHECK.due("thrown", thrown, true);
        CHECK.due("all stays", Check.state(x), before);
    }

    private static void days(String square, int seed, int ticks, int said, int open, int places) {
        RainGrammar x = Check.on(square);
        String what = "days " + seed + " " + ticks;
        CHECK.due(what + ", said", x.days(seed, ticks, 0), said);
        CHECK.due(what + ", open", x.days(seed, ticks, 1), open);
        CHECK.due(what + ", places", x.days(seed, ticks, 2), places);
    }

    private static void draws() {
        String one = REDS + red("a", 4, "0");
        CHECK.about("DAYS: a DRAW below these, one below 6: 0: that MOVES by a DRAW below 2 and 1, if it can be");
        days(one, 0, 1, 1, 1, 5);
        days(one, 11, 1, 1, 1, 3);
        days(REDS + red("a", 9, "0"), 0, 1, 1, 1, 9);
        days(REDS + red("a", 0, "0"), 11, 1, 1, 1, 0);
        CHECK.about("DAYS: 1: it is SHUT, if it is open");
        days(one, 9, 1, 0, 0, 4);
        RainGrammar x = Check.on(one);
        x.shut(0);
        CHECK.due("shut already", x.days(9, 1, 1), 0);
        CHECK.about("DAYS: 2: OPENED, if it is shut");
        days(one, 7, 1, 1, 1, 4);
        CHECK.due("shut ahead", x.days(7, 1, 1), 1);
        CHECK.due("and said then", x.days(7, 1, 0), 1);
        CHECK.about("DAYS: below 6 (3, 4, 5: nothing)");
        for (int seed : new int[] {3, 1, 2}) {
            days(one, seed, 1, 1, 1, 4);
            CHECK.due("shut stays shut by " + seed, x.days(seed, 1, 1), 0);
        }
        CHECK.about("DAYS: each .. then the TICK: how many SENTENCES are SAID behind each of these, together");
        // Seed 0: moved to 5, moved to 4, shut, nothing, nothing, opened, nothing, shut ..
        int[] said = {1, 2, 2, 2, 2, 3, 4, 4, 4, 4, 4, 4};
        int[] open = {1, 1, 0, 0, 0, 1, 1, 0, 0, 0, 0, 0};
        int[] places = {5, 4, 4, 4, 4, 4, 4, 4, 4, 4, 4, 4};
        for (int t = 1; t <= said.length; t++) {
            days(one, 0, t, said[t - 1], open[t - 1], places[t - 1]);
        }
    }

    private static void manyDays() {
        String one = REDS + red("a", 4, "0");
        CHECK.about("DAYS by a SEED (0 to 9999) of so many TICKS (1 to 99)");
        days(one, 0, 99, 58, 1, 7);
        days(one, 1, 99, 40, 1, 1);
        days(one, 5000, 99, 64, 0, 8);
        days(one, 9998, 99, 51, 1, 2);
        days(one, 9999, 99, 44, 1, 8);
        String three = REDS + red("a", 4, "0") + red("b", 0, "0") + red("c", 9, "0");
        int[][] due = {{0, 1, 13}, {1, 4, 8}, {7, 6, 9}, {9998, 3, 11}, {9999, 1, 14}};
        for (int[] d : due) {
            RainGrammar x = Check.on(three);
            CHECK.due("three by " + d[0] + ", open", x.days(d[0], 99, 1), d[1]);
            CHECK.due("three by " + d[0] + ", places", x.days(d[0], 99, 2), d[2]);
        }
        StringBuilder b = new StringBuilder(REDS);
        for (int i = 0; i < 7; i++) {
            b.append(red("w" + (char) ('a' + i), i, "0"));
        }
        int[][] seven = {{0, 62, 24}, {1, 76, 18}, {7, 21, 18}, {9998, 109, 22}, {9999, 94, 26}};
        for (int[] d : seven) {
            RainGrammar x = Check.on(b.toString());
            CHECK.due("seven by " + d[0] + ", open", x.days(d[0], 99, 1), d[1]);
            CHECK.due("seven by " + d[0] + ", places", x.days(d[0], 99, 2), d[2]);
        }
        CHECK.about("DAYS: each, if there are WALKERS");
        days("", 9999, 99, 0, 0, 0);
        days("", 0, 1, 0, 0, 0);
        days(REDS, 0, 1, 0, 0, 0);
    }

    private static void daysFromNow() {
        CHECK.about("DAYS: from now on (all is as ahead then)");
        RainGrammar x = Check.on(REDS + red("a", 0, "1 1 2") + "gusts 10 10 3;");
        x.tick();
        x.tick();
        Check.day(x, "tick;");
        Check.wish(x, "red");
        String before = Check.state(x);
        // Seed 2 draws 5: nothing; in tick 2 he goes back to 1.
        CHECK.due("places", x.days(2, 1, 2), 1);
        CHECK.due("said", x.days(2, 1, 0), 1);
        // Seed 0 moves him to 3, and in tick 2 he goes back to 2.
        CHECK.due("moved ahead of the tick", x.days(0, 1, 2), 2);
        x.days(9999, 99, 0);
        CHECK.due("all is as ahead", Check.state(x), before);
        CHECK.due("two can be undone", x.count(12), 2);
        CHECK.about("days: NONE: others");
        int[][] wrong = {{-1, 1, 0}, {10000, 1, 0}, {0, 0, 0}, {0, -1, 0}, {0, 100, 0}, {0, 1, -1}, {0, 1, 3},
            {Integer.MIN_VALUE, 1, 0}, {Integer.MAX_VALUE, 1, 0}, {0, Integer.MIN_VALUE, 0}, {0, Integer.MAX_VALUE, 0},
            {0, 1, Integer.MIN_VALUE}, {0, 1, Integer.MAX_VALUE}};
        for (int[] p : wrong) {
            CHECK.due("days " + p[0] + " " + p[1] + " " + p[2], x.days(p[0], p[1], p[2]), -1);
        }
    }

    public static void main(String[] args) {
        code();
        amiss();
        blind();
        answer();
        see();
        who();
        ask();
        chance();
        rests();
        draws();
        manyDays();
        daysFromNow();
        CHECK.end();
    }
}
