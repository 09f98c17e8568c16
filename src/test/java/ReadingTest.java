/** Promises 6, 7, 14, 27 and 39: who is read, as what, and how many sentences are said. */
public final class ReadingTest {
    private static final Check CHECK = new Check("ReadingTest");
    private static final String GRAMMAR = "sort n;sort v;sort s;colour red as n;colour blue as v;rule s is n v;says s;";

    private static RainGrammar on(String more) {
        return Check.on(GRAMMAR + more);
    }

    private static String w(String name, String kind, String colour, int place) {
        return "walker " + name + " " + kind + " " + colour + " at " + place + " goes 0;";
    }

    private static String row(RainGrammar x) {
        StringBuilder b = new StringBuilder();
        for (int i = 0; x.read(i) != RainGrammar.NONE; i++) {
            b.append(x.read(i));
        }
        return b.toString();
    }

    private static void read(String what, RainGrammar x, String due) {
        CHECK.due(what + ": read " + row(x) + " for " + due, row(x).equals(due), true);
        CHECK.due(what + ": how many", x.count(7), due.length());
        CHECK.due(what + ": below", x.read(-1), -1);
        CHECK.due(what + ": beyond", x.read(due.length()), -1);
    }

    private static void kinds() {
        RainGrammar x = on(w("a", "plain", "blue", 9) + w("b", "bare", "red", 5) + w("c", "lover", "red", 3)
            + w("d", "bent", "red", 4) + w("e", "bent", "blue", 8));
        read("kinds", x, "01601");
        CHECK.due("sentences", x.count(6), 2);
        CHECK.due("said", x.said(), 2);
        CHECK.due("colours", x.colours(), 3);
        int[][] due = {{0, 1, 9, 1, 0, 1}, {1, 0, 5, 1, 0, 1}, {2, 0, 3, 1, 0, 1}, {3, 0, 4, 1, 0, 1}, {3, 1, 8, 1, 0, 1}};
        for (int walker = 0; walker < due.length; walker++) {
            for (int what = 0; what < 6; what++) {
                CHECK.due("walker " + walker + " " + what, x.walker(walker, what), due[walker][what]);
            }
        }
        int[] wrong = {-1, 6, 7, Integer.MAX_VALUE, Integer.MIN_VALUE};
        for (int what : wrong) {
            CHECK.due("walker 0 " + what, x.walker(0, what), -2);
            CHECK.due("walker " + what + " 0", x.walker(what == 6 ? 5 : what, 0), -2);
        }
        x.shut(1);
        read("without the stop", x, "0101");
        CHECK.due("one sentence", x.count(6), 1);
        CHECK.due("not said", x.said(), 0);
        CHECK.due("shut", x.walker(1, 3), 0);
        CHECK.due("not read", x.walker(1, 5), 0);
        CHECK.due("bits", x.count(8), 29);
    }

    private static void bentByLaterColours() {
        RainGrammar x = Check.on("sort n;colour red as n;walker a bent red at 0 goes 0;");
        read("the only colour is the first behind itself", x, "0");
        x = Check.on("sort n;colour red as n;walker a bent red at 0 goes 0;colour pink as n;");
        read("a colour told behind the walker", x, "1");
    }

    private static void stops() {
        RainGrammar x = on(w("a", "bare", "red", 0) + w("b", "bare", "red", 1) + w("c", "plain", "red", 2)
            + w("d", "bare", "red", 3) + w("e", "bare", "red", 4));
        read("stops alone and around", x, "66066");
        CHECK.due("one sentence", x.count(6), 1);
        CHECK.due("colours without stops", x.colours(), 1);
        x.shut(2);
        CHECK.due("no sentence", x.count(6), 0);
        CHECK.due("no colour", x.colours(), 0);
    }

    private static void lovers() {
        String two = w("a", "lover", "red", 2) + w("b", "lover", "red", 2) + w("c", "plain", "red", 2) + w("d", "lover", "blue", 3);
        RainGrammar x = on(two + "reads 1;");
        read("lovers together", x, "01");
        CHECK.due("the plain one is read", x.walker(2, 5), 1);
        x.shut(1);
        read("one of them shut", x, "01");
        x.move(1, 2);
        read("one of them gone, shut", x, "001");
        x.open(1);
        read("opened elsewhere", x, "0001");
    }

    private static void withoutReads() {
        RainGrammar x = on(w("a", "plain", "blue", 5) + w("b", "plain", "red", 5) + w("c", "plain", "red", 1));
        read("the first at a place alone", x, "01");
        x.shut(0);
        read("shut, he stands there still", x, "0");
        x = on(w("a", "plain", "blue", 5) + w("b", "plain", "red", 5) + w("c", "plain", "red", 1) + "reads 7;");
        read("by places, then numbers", x, "010");
    }

    private static void gusts() {
        RainGrammar x = on(w("a", "plain", "red", 3) + w("b", "plain", "blue", 4) + "gusts 3 10 4;");
        int[] gust = {3, 10, 4, 3};
        String[] due = {"1", "01", "0", "1"};
        for (int i = 0; i < gust.length; i++) {
            CHECK.due("gust in tick " + i, x.count(5), gust[i]);
            read("gust in tick " + i, x, due[i]);
            CHECK.due("tick's number", x.count(4), i);
            CHECK.due("tick " + i, x.tick(), i == 0 || i == 3 ? 1 : 0);
        }
    }

    private static void law(String e, String due) {
        RainGrammar x = on(w("a", "plain", "red", 0) + w("b", "plain", "blue", 2) + w("c", "bare", "red", 2)
            + w("d", "plain", "blue", 2) + w("e", "plain", "red", 7) + w("f", "plain", "red", 9) + "reads " + e + ";");
        x.shut(1);
        StringBuilder bits = new StringBuilder();
        for (int i = 0; i < 6; i++) {
            bits.append(x.walker(i, 5));
        }
        CHECK.due("reads " + e + ": " + bits, bits.toString().equals(due), true);
    }

    private static void laws() {
        law("1", "101111");
        law("0", "000000");
        law("0-5", "101111");
        law("spot", "001111");
        law("crowd", "001100");
        law("crowd=2", "001100");
        law("first", "100011");
        law("hour", "000000");
        law("spot<7", "101100");
        law("spot=7", "000010");
        law("not spot", "100000");
        law("not not spot=1", "001111");
        law("not (spot=1)", "101111");
        law("spot+1<3", "100000");
        law("spot-2*crowd<0", "001100");
        law("(spot-2)*crowd<0 or spot=9", "000001");
        law("1 or 0 and 0", "000000");
        law("0 and 0 or 1", "101111");
        law("1 or (0 and 0)", "101111");
        law("5 and 3 = 1", "000000");
        law("2 and 4", "101111");
        law("7-2-5", "000000");
        law("7-2+5-10", "000000");
        law("2*3*5-30", "000000");
        law("9999*9999*9999<0", "101111");
        law("9999*9999*43<0", "000000");
        law("9999*9999*22<0", "101111");
        law("9999*9999*43*5", "101111");
        law("256*256*256*256", "000000");
    }

    private static void hours() {
        RainGrammar x = on(w("a", "plain", "red", 0) + w("b", "plain", "blue", 2) + "reads hour<2;");
        CHECK.due("hour 0", x.said(), 1);
        CHECK.due("hour 1", x.tick(), 1);
        CHECK.due("hour 2", x.tick(), 0);
    }

    /** Without says a sentence is said if it is of the first sort told. */
    private static void withoutSays() {
        RainGrammar x = Check.on("sort n;sort v;colour red as n;colour blue as v;"
            + "walker a plain red at 1 goes 1 0;walker b plain blue at 2 goes 0;");
        CHECK.due("without says, of no sort", x.said(), 0);
        CHECK.due("a sentence though", x.count(6), 1);
        CHECK.due("keys", x.keys(), 2);
        CHECK.due("least", x.least(), 2);
        CHECK.due("chance", x.chance(5), 50000);
        CHECK.due("when", x.when(), 1);
        CHECK.due("most", x.most(), 1);
        CHECK.due("talk", x.talk(60), 2);
        Check.day(x, "shut a;tick;open a;tick;");
        CHECK.due("judged 1", x.judged(1), 2);
        CHECK.due("judged 2", x.judged(2), 1);
        CHECK.due("tick", x.tick(), 1);
        CHECK.due("said", x.said(), 1);
        CHECK.due("ways", x.ways(0), 1);
        CHECK.due("depth", x.depth(0), 0);
        CHECK.due("no rule in the tree", x.tree(0, 0), -1);
        CHECK.due("sorts", x.sorts(0, 0, 0), 1);
        CHECK.due("answer", x.answer(), 7);
        x.shut(0);
        x.move(0, 1);
        CHECK.due("of the second sort", x.said(), 0);
        CHECK.due("its ways", x.ways(0), 0);
        CHECK.due("its depth", x.depth(0), -1);
        CHECK.due("its sorts", x.sorts(0, 0, 0), 2);
        x = Check.on("sort n;colour red as n;" + w("a", "plain", "red", 1));
        CHECK.due("days", x.days(0, 1, 0), 1);
    }

    private static void nothingSaid() {
        RainGrammar x = Check.on("sort n;sort v;colour red as n;says v;" + w("a", "plain", "red", 0));
        CHECK.due("says another sort", x.said(), 0);
        CHECK.due("a sentence though", x.count(6), 1);
        CHECK.due("ways", x.ways(0), 0);
        CHECK.due("depth", x.depth(0), -1);
        CHECK.due("sorts", x.sorts(0, 0, 0), 1);
        x = Check.on("");
        CHECK.due("no sort at all", x.said(), 0);
        CHECK.due("nor behind a tick", x.tick(), 0);
    }

    /** Calls that look elsewhere leave nothing behind in what is read now. */
    private static void elsewhere() {
        RainGrammar x = on(w("a", "plain", "red", 3) + w("b", "plain", "blue", 4) + "reads not hour;");
        x.most();
        CHECK.due("read, behind most", x.count(7), 2);
        x.most();
        CHECK.due("sentences, behind most", x.count(6), 1);
        x.most();
        CHECK.due("colours, behind most", x.colours(), 3);
        x.most();
        CHECK.due("ways, behind most", x.ways(0), 1);
        x.most();
        CHECK.due("walker, behind most", x.walker(0, 5), 1);
        x.most();
        CHECK.due("read 1, behind most", x.read(1), 1);
    }

    /** As many parts as a tape can hold, and as many values waiting as can be. */
    private static void longLaws() {
        StringBuilder sum = new StringBuilder("reads 1");
        for (int i = 0; i < 496; i++) {
            sum.append("+1");
        }
        RainGrammar x = Check.on(sum + ";");
        CHECK.due("1000 signs", sum.length() + 1, 1000);
        CHECK.due("read at last", x.count(13), 0);
        law("1 and 1=1+1*(1 and 2=1+1*(1 and 3=1+1*(1 and 4=1+1*(1 and 5=1+1*4))))", "101111");
        law("0 or 9=1+2*(0 or 9=3+2*(1 and 5=2+1*(0 or 7=1+2*3)))", "000000");
        law("0 or 3=1+2*(0 or 5=3+2*(1 and 3=2+1*(0 or 7=1+2*3)))", "101111");
    }

    private static void counts() {
        RainGrammar x = on(w("a", "plain", "red", 3) + w("b", "plain", "blue", 4));
        Check.wish(x, "red");
        Check.day(x, "tick;tick;shut a;");
        x.see(0, 0, true);
        x.see(0, 0, true);
        x.tick();
        x.shut(0);
        Check.feed(x, "hello");
        int[] due = {3, 2, 1, 2, 1, 10, 1, 1, 2, 3, 1, 2, 2, 5};
        for (int what = 0; what < due.length; what++) {
            CHECK.due("count " + what, x.count(what), due[what]);
        }
        for (int what : new int[] {-1, 14, Integer.MIN_VALUE, Integer.MAX_VALUE}) {
            CHECK.due("count " + what, x.count(what), -1);
        }
    }

    public static void main(String[] args) {
        kinds();
        bentByLaterColours();
        stops();
        lovers();
        withoutReads();
        gusts();
        laws();
        hours();
        withoutSays();
        nothingSaid();
        elsewhere();
        longLaws();
        counts();
        CHECK.end();
    }
}
