/** Promises 28 to 37: blinds, who it was, chance, a corner, days by draws. */
public final class WindowTest {
    private static final Check CHECK = new Check("WindowTest");
    private static final String SQUARE = "sort n;sort v;sort s;colour red as n;colour blue as v;rule s is n v;says s;"
        + "walker a plain red at 1 goes 1 0;walker b plain blue at 3 goes 0;walker c bare red at 6 goes 2;"
        + "walker d plain red at 8 goes 0;walker e plain blue at 9 goes 0;";
    private static final int THROWN = -99;

    private static void blinds() {
        RainGrammar x = new RainGrammar();
        int[] codes = {0, 7, 25, 30, 42, 45, 51, 52, 75, 76, 82, 85, 97, 102, 120, 127};
        for (int value = 0; value < 16; value++) {
            CHECK.due("code " + value, x.code(value), codes[value]);
            CHECK.due("blind of it", x.blind(codes[value]), value);
            CHECK.due("amiss of it", x.amiss(codes[value]), 0);
            for (int slat = 1; slat <= 7; slat++) {
                int wrong = codes[value] ^ (1 << (slat - 1));
                CHECK.due("amiss, slat " + slat, x.amiss(wrong), slat);
                CHECK.due("blind, slat " + slat, x.blind(wrong), value);
            }
        }
        for (int odd : new int[] {-1, 128, Integer.MIN_VALUE, Integer.MAX_VALUE}) {
            CHECK.due("code " + odd, x.code(odd), -1);
            CHECK.due("amiss " + odd, x.amiss(odd), -1);
            CHECK.due("blind " + odd, x.blind(odd), -1);
        }
        CHECK.due("code 16", x.code(16), -1);
        CHECK.due("answer of none", x.answer(), 0);
        x = Check.on(SQUARE);
        CHECK.due("answer of two", x.answer(), 25);
        x.shut(3);
        CHECK.due("answer of one", x.answer(), 7);
    }

    private static void seen() {
        RainGrammar x = Check.on(SQUARE);
        CHECK.due("nothing seen: all", x.who(), 31);
        CHECK.due("a, b and c stand together behind three", x.ask(), 33);
        CHECK.due("see", x.see(3, 0, false), true);
        CHECK.due("not b", x.who(), 29);
        CHECK.due("see", x.see(8, 40, false), true);
        CHECK.due("nor d", x.who(), 21);
        CHECK.due("see", x.see(9, 40, true), true);
        CHECK.due("a is there behind 40, and e", x.who(), 17);
        CHECK.due("ask for one of two", x.ask(), 1);
        CHECK.due("count", x.count(11), 3);
        x.see(9, 0, false);
        CHECK.due("a", x.who(), 1);
        CHECK.due("none to part", x.ask(), -1);
        x.see(9, 0, true);
        CHECK.due("nobody", x.who(), 0);
        CHECK.due("nobody to part", x.ask(), -1);
        int[][] wrong = {{-1, 0}, {10, 0}, {0, -1}, {0, 41}, {Integer.MAX_VALUE, 0}, {0, Integer.MIN_VALUE}};
        for (int[] w : wrong) {
            CHECK.due("see " + w[0] + " " + w[1], x.see(w[0], w[1], true), false);
        }
        CHECK.due("five", x.count(11), 5);
        x.see(0, 0, false);
        x.see(0, 0, false);
        CHECK.due("the eighth", x.see(0, 0, false), true);
        CHECK.due("the ninth", x.see(0, 0, false), false);
        CHECK.due("eight", x.count(11), 8);
    }

    private static void seenFromNow() {
        RainGrammar x = Check.on(SQUARE);
        x.see(2, 1, true);
        CHECK.due("a, behind one tick", x.who(), 1);
        x.tick();
        CHECK.due("still, as he stays then", x.who(), 1);
        x.tick();
        CHECK.due("behind one tick from now nobody is", x.who(), 0);
        RainGrammar z = Check.on("sort n;colour red as n;walker a plain red at 0 goes 1;walker b plain red at 1 goes 1;");
        z.see(0, 0, true);
        CHECK.due("at the first place, now", z.who(), 1);
        RainGrammar y = Check.on("sort n;colour red as n;walker a plain red at 4 goes 1;walker b plain red at 4 goes 1;");
        CHECK.due("always together", y.ask(), -1);
        y = Check.on("sort n;colour red as n;walker a plain red at 9 goes 0;"
            + "walker b bent red at 9 goes 0 1;walker c plain red at 9 goes 1 1 1 1 2;");
        CHECK.due("parted behind 5", y.ask(), 58);
        y = Check.on("sort n;colour red as n;walker wa plain red at 4 goes 1 0 1 2;walker wb plain red at 2 goes 1 0 2 0 0;"
            + "walker wc plain red at 1 goes 2 2 0 1 2 2;walker wd plain red at 0 goes 2 1 2 2 1;"
            + "walker we plain red at 1 goes 0 1 2 0;walker wf plain red at 5 goes 2 1 2 1;");
        int[] far = {8, 2, 1, 1, 1, 5};
        for (int w = 0; w < far.length; w++) {
            CHECK.due("behind 40, " + w, y.later(w, 40), far[w]);
        }
        CHECK.due("three of six behind 40, for the first time", y.ask(), 401);
    }

    private static void chances() {
        RainGrammar x = Check.on(SQUARE + "gusts 3;");
        CHECK.due("said told", x.said(), 1);
        for (int odds = 0; odds <= 10; odds++) {
            CHECK.due("not said by a gust on the stop alone " + odds, x.chance(odds), 900000 + 10000 * odds);
        }
        x.shut(3);
        int[] due = {700000, 730000, 760000, 790000, 820000, 850000, 880000, 910000, 940000, 970000, 1000000};
        for (int odds = 0; odds <= 10; odds++) {
            CHECK.due("chance " + odds, x.chance(odds), due[odds]);
        }
        x.shut(2);
        CHECK.due("calm: red blue blue; a gust at 3 or at 9", x.chance(4), 120000);
        for (int odds : new int[] {-1, 11, Integer.MIN_VALUE, Integer.MAX_VALUE}) {
            CHECK.due("chance " + odds, x.chance(odds), -1);
        }
        CHECK.due("what is told stays", x.count(5), 3);
        CHECK.due("nothing", new RainGrammar().chance(10), 0);
    }

    private static void corner(int lose, int tilts, int stays, int... pairs) {
        RainGrammar x = new RainGrammar();
        String what = "rests " + lose + " " + tilts + " " + stays + " ";
        CHECK.due(what + "how many", Check.rests(x, lose, tilts, stays, -1), pairs.length);
        for (int i = 0; i < pairs.length; i++) {
            CHECK.due(what + i, Check.rests(x, lose, tilts, stays, i), pairs[i]);
        }
        CHECK.due(what + "no more", Check.rests(x, lose, tilts, stays, pairs.length), THROWN);
        CHECK.due(what + "others", Check.rests(x, lose, tilts, stays, -2), THROWN);
    }

    private static void corners() {
        corner(2, 5, 1, 1, 2);
        corner(0, 9, 0, 1, 2, 3);
        corner(0, 0, 0, 0, 1, 2, 3);
        corner(3, 0, 4, 0, 1, 2);
        corner(0, 3, 1, 1, 2);
        corner(9, 9, 9, 1, 2);
        RainGrammar x = new RainGrammar();
        int[][] wrong = {{-1, 0, 0}, {10, 0, 0}, {0, -1, 0}, {0, 10, 0}, {0, 0, -1}, {0, 0, 10},
            {Integer.MAX_VALUE, 0, 0}, {0, Integer.MIN_VALUE, 0}};
        for (int[] w : wrong) {
            CHECK.due("rests " + w[0] + " " + w[1] + " " + w[2], Check.rests(x, w[0], w[1], w[2], -1), THROWN);
            CHECK.due("rests " + w[0] + " " + w[1] + " " + w[2], Check.rests(x, w[0], w[1], w[2], 0), THROWN);
        }
        CHECK.due("far", Check.rests(x, 1, 1, 1, Integer.MAX_VALUE), THROWN);
        CHECK.due("far below", Check.rests(x, 1, 1, 1, Integer.MIN_VALUE), THROWN);
    }

    private static void days() {
        RainGrammar x = Check.on(SQUARE);
        x.tick();
        x.shut(4);
        int[][] wrong = {{-1, 1, 0}, {10000, 1, 0}, {0, 0, 0}, {0, 100, 0}, {0, 1, -1}, {0, 1, 3},
            {Integer.MAX_VALUE, 1, 0}, {0, Integer.MIN_VALUE, 0}};
        for (int[] w : wrong) {
            CHECK.due("days " + w[0] + " " + w[1] + " " + w[2], x.days(w[0], w[1], w[2]), -1);
        }
        // Seed 0: g is 12345, a draw of 0: a. Then g is 1406932606, 21468 modulo 6 is 0: a moves,
        // and 654583775, 9988 modulo 2 and 1 is 1: to 3; in tick 1 a stays, c goes to 4.
        CHECK.due("places behind one", x.days(0, 1, 2), 3 + 3 + 4 + 8 + 9);
        CHECK.due("open behind one", x.days(0, 1, 1), 15);
        CHECK.due("said behind one: a, ahead of b, is read alone at 3", x.days(0, 1, 0), 0);
        CHECK.due("all is as ahead", x.walker(0, 2), 2);
        CHECK.due("all is as ahead", x.count(4), 1);
        CHECK.due("all is as ahead", x.count(12), 2);
        CHECK.due("all is as ahead", x.count(8), 15);
        CHECK.due("the bounds", x.days(9999, 99, 1) >= 0, true);
        RainGrammar y = new RainGrammar();
        CHECK.due("without walkers", y.days(5, 99, 2), 0);
        CHECK.due("without walkers", y.days(5, 99, 0), 0);
    }

    public static void main(String[] args) {
        blinds();
        seen();
        seenFromNow();
        chances();
        corners();
        days();
        CHECK.end();
    }
}
