/** Promises 19 to 24 and 26: keys, the fewest to shut, what comes, the fewest steps of a wish. */
public final class LookingTest {
    private static final Check CHECK = new Check("LookingTest");
    private static final String GRAMMAR = "sort n;sort v;sort s;colour red as n;colour blue as v;colour pink as n;"
        + "rule s is n v;says s;";

    private static RainGrammar on(String more) {
        return Check.on(GRAMMAR + more);
    }

    private static void keys() {
        RainGrammar x = on("walker a plain red at 0 goes 0;walker b plain blue at 1 goes 0;walker c bare red at 2 goes 0;"
            + "walker d plain red at 3 goes 0;walker e plain red at 4 goes 0;walker f plain blue at 5 goes 0;"
            + "walker g plain red at 5 goes 0;");
        CHECK.due("said", x.said(), 1);
        CHECK.due("either of a, b; all by the stop; d or e make one more", x.keys(), 31);
        x.shut(3);
        CHECK.due("d is shut", x.keys(), 0b110111);
        CHECK.due("nothing is done", x.count(12), 1);
        x = on("walker a plain red at 0 goes 0;walker b plain blue at 1 goes 0;gusts 0;");
        CHECK.due("in a gust", x.keys(), 0);
    }

    private static void least() {
        RainGrammar x = on("walker a plain red at 0 goes 0;walker b plain blue at 1 goes 0;walker c plain red at 2 goes 0;"
            + "walker d plain blue at 3 goes 0;");
        CHECK.due("two of four, the least set", x.least(), 0b0011);
        x.shut(2);
        CHECK.due("of those left", x.least(), 0b0010);
        x.shut(1);
        CHECK.due("nothing more", x.least(), 0);
        x.shut(0);
        CHECK.due("by none", x.least(), -1);
        x = Check.on("sort n;colour red as n;rule n is n n;says n;walker a plain red at 0 goes 0;"
            + "walker b plain red at 1 goes 0;walker c plain red at 2 goes 0;walker d bare red at 4 goes 0;"
            + "walker e plain red at 5 goes 0;");
        CHECK.due("in one way, one sentence", x.least(), 0b10001);
        x.shut(4);
        CHECK.due("two are read in one way", x.least(), 0b00001);
        x.shut(3);
        CHECK.due("without the stop", x.least(), 0b00001);
    }

    private static void later() {
        RainGrammar x = on("walker a plain red at 8 goes 1 0 2 2;walker b plain red at 0 goes 2 1 1;");
        int[] a = {8, 9, 9, 8, 7, 8, 8, 7, 6};
        int[] b = {0, 0, 1, 2, 1, 2, 3, 2, 3};
        for (int t = 0; t < a.length; t++) {
            CHECK.due("a later " + t, x.later(0, t), a[t]);
            CHECK.due("b later " + t, x.later(1, t), b[t]);
        }
        x.tick();
        x.tick();
        for (int t = 2; t < a.length; t++) {
            CHECK.due("from tick 2, a later " + (t - 2), x.later(0, t - 2), a[t]);
        }
        CHECK.due("60", x.later(1, 60), 9);
        int[][] wrong = {{0, 61}, {0, -1}, {2, 0}, {-1, 0}, {0, Integer.MAX_VALUE}, {Integer.MIN_VALUE, 3}};
        for (int[] w : wrong) {
            CHECK.due("later " + w[0] + " " + w[1], x.later(w[0], w[1]), -1);
        }
        CHECK.due("nothing is done", x.count(4), 2);
    }

    private static void comes() {
        RainGrammar x = on("walker a plain red at 4 goes 2;walker b plain blue at 1 goes 1 0;");
        CHECK.due("behind two both stand at one place, behind three they have passed", x.when(), 3);
        CHECK.due("most", x.most(), 3);
        CHECK.due("talk 2", x.talk(2), 0);
        CHECK.due("talk 3", x.talk(3), 1);
        CHECK.due("talk 60", x.talk(60), 58);
        x.tick();
        CHECK.due("when from tick 1", x.when(), 2);
        x.tick();
        x.tick();
        CHECK.due("when now", x.when(), 0);
        CHECK.due("talk without now", x.talk(1), 1);
        for (int ticks : new int[] {0, -1, 61, Integer.MAX_VALUE, Integer.MIN_VALUE}) {
            CHECK.due("talk " + ticks, x.talk(ticks), -1);
        }
        x.shut(0);
        CHECK.due("never", x.when(), -1);
        CHECK.due("most of none", x.most(), 0);
        CHECK.due("talk of none", x.talk(60), 0);
    }

    private static void edges() {
        RainGrammar x = on("walker a plain red at 0 goes 0;walker b plain blue at 1 goes 0;reads hour=60;");
        CHECK.due("when 60", x.when(), 60);
        CHECK.due("most 60", x.most(), 60);
        CHECK.due("talk 60", x.talk(60), 1);
        CHECK.due("talk 59", x.talk(59), 0);
        x = on("walker a plain red at 0 goes 0;walker b plain blue at 1 goes 0;reads hour=61;");
        CHECK.due("when 61", x.when(), -1);
        CHECK.due("most 61", x.most(), 0);
        x.tick();
        CHECK.due("from tick 1", x.when(), 60);
        x = on("walker a plain red at 0 goes 0;walker b plain blue at 1 goes 0;walker c bare red at 2 goes 0;"
            + "walker d plain red at 3 goes 0;walker e plain blue at 4 goes 0;gusts 0 2 3 10 10 1;");
        CHECK.due("the most, for the first time", x.most(), 3);
        CHECK.due("talk 5", x.talk(5), 0 + 1 + 2 + 2 + 1);
    }

    private static void steps(String what, RainGrammar x, String wish, int fewest, int... row) {
        Check.wish(x, wish);
        CHECK.due(what + ", how many", x.steps(-1), fewest);
        for (int i = 0; i < row.length; i++) {
            CHECK.due(what + ", " + i, x.steps(i), row[i]);
        }
        CHECK.due(what + ", no more", x.steps(row.length), -2);
        CHECK.due(what + ", others", x.steps(-2), -2);
        CHECK.due(what + ", far", x.steps(Integer.MAX_VALUE), -2);
    }

    private static void wishes() {
        String told = "walker a plain blue at 2 goes 1;walker b plain red at 5 goes 1;walker c bent red at 8 goes 1;"
            + "walker d bare red at 0 goes 1;walker e plain red at 5 goes 1;gusts 5;reads 0;";
        RainGrammar x = on(told);
        CHECK.due("no wish", x.steps(-1), -2);
        CHECK.due("no wish, a name", x.steps(0), -2);
        x.shut(1);
        steps("one", x, "red", 0, 1);
        steps("the bent one is blue", x, "red blue", 0, 1, 2);
        steps("two reds stand at one place", x, "red red", 1, 1, 4);
        steps("blue ahead of blue", x, "blue blue", 0, 0, 2);
        steps("to pass one another", x, "red red blue blue", 5, 1, 4, 0, 2);
        steps("a bent pink", x, "pink", -2);
        steps("too many blues", x, "blue blue blue", -2);
        steps("more than there are", x, "red red red red red red red", -2);
        CHECK.due("nothing is moved", x.walker(1, 2), 5);
        x.tick();
        steps("by where they are now", x, "blue red", 0, 0, 1);
    }

    private static void crowded() {
        StringBuilder b = new StringBuilder();
        for (int i = 0; i < 7; i++) {
            b.append("walker w").append((char) ('a' + i)).append(" lover red at 9 goes 0;");
        }
        RainGrammar x = on(b.toString());
        steps("seven at the last place", x, "red red red red red red red", 21, 0, 1, 2, 3, 4, 5, 6);
        x = on("walker a plain red at 9 goes 0;walker b plain red at 0 goes 0;walker c plain red at 4 goes 0;");
        steps("the first row of equal ones", x, "red red", 0, 1, 0);
        steps("all three", x, "red red red", 0, 1, 2, 0);
        x = on("walker a plain red at 3 goes 0;walker b plain blue at 3 goes 0;walker c plain blue at 4 goes 0;"
            + "walker d plain red at 3 goes 0;");
        steps("a lower number comes first by equal steps", x, "red blue", 0, 0, 2);
        steps("steps go ahead of numbers", x, "blue blue", 0, 1, 2);
        steps("from the other side", x, "blue red", 1, 1, 0);
    }

    public static void main(String[] args) {
        keys();
        least();
        later();
        comes();
        edges();
        wishes();
        crowded();
        CHECK.end();
    }
}
