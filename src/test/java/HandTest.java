/** Promises 8 to 13 and 38: ticks, steps, umbrellas, undoing, days judged, marks. */
public final class HandTest {
    private static final Check CHECK = new Check("HandTest");
    private static final String SQUARE = "sort n;sort v;sort s;colour red as n;colour blue as v;rule s is n v;says s;"
        + "walker a plain red at 8 goes 1 0 2;walker b plain blue at 1 goes 2;walker c bare red at 5 goes 0;";

    private static void places(String what, RainGrammar x, int a, int b, int c) {
        CHECK.due(what + ", a", x.walker(0, 2), a);
        CHECK.due(what + ", b", x.walker(1, 2), b);
        CHECK.due(what + ", c", x.walker(2, 2), c);
    }

    private static void ticks() {
        RainGrammar x = Check.on(SQUARE);
        CHECK.due("step in tick 0", x.walker(0, 4), 1);
        CHECK.due("tick", x.tick(), 0);
        places("tick 1", x, 9, 0, 5);
        CHECK.due("step in tick 1", x.walker(0, 4), 0);
        x.tick();
        places("tick 2: b can't", x, 9, 0, 5);
        CHECK.due("step in tick 2", x.walker(0, 4), 2);
        x.tick();
        places("tick 3", x, 8, 0, 5);
        x.tick();
        places("tick 4", x, 9, 0, 5);
        x.move(0, 1);
        CHECK.due("number", x.count(4), 4);
        CHECK.due("undo 4", x.undo(), true);
        CHECK.due("undo 3", x.undo(), true);
        places("undone to tick 2", x, 9, 0, 5);
        CHECK.due("number", x.count(4), 2);
    }

    private static void moves() {
        RainGrammar x = Check.on(SQUARE);
        CHECK.due("to the next", x.move(0, 1), 9);
        CHECK.due("none there", x.move(0, 1), -1);
        CHECK.due("back", x.move(0, 2), 8);
        CHECK.due("ahead", x.move(1, 2), 0);
        CHECK.due("none ahead", x.move(1, 2), -1);
        for (int step : new int[] {0, -1, 3, Integer.MAX_VALUE}) {
            CHECK.due("step " + step, x.move(2, step), -1);
        }
        for (int walker : new int[] {-1, 3, 7, Integer.MIN_VALUE}) {
            CHECK.due("walker " + walker, x.move(walker, 1), -1);
        }
        CHECK.due("what can't be is not to be undone", x.count(12), 3);
        CHECK.due("the tick stays", x.count(4), 0);
    }

    private static void umbrellas() {
        RainGrammar x = Check.on(SQUARE);
        CHECK.due("open already", x.open(0), false);
        CHECK.due("shut", x.shut(0), true);
        CHECK.due("shut already", x.shut(0), false);
        CHECK.due("bits", x.count(8), 6);
        CHECK.due("open", x.open(0), true);
        CHECK.due("a bare one shuts as well", x.shut(2), true);
        for (int walker : new int[] {-1, 3, 7, 31, 32, Integer.MAX_VALUE}) {
            CHECK.due("shut " + walker, x.shut(walker), false);
            CHECK.due("open " + walker, x.open(walker), false);
        }
        CHECK.due("can be undone", x.count(12), 3);
        CHECK.due("undo", x.undo(), true);
        CHECK.due("the bare one is open", x.walker(2, 3), 1);
        x.undo();
        CHECK.due("shut again", x.walker(0, 3), 0);
        x.undo();
        CHECK.due("open again", x.count(8), 7);
        CHECK.due("nothing more", x.undo(), false);
    }

    private static void sixteen() {
        RainGrammar x = Check.on(SQUARE);
        for (int i = 0; i < 20; i++) {
            x.tick();
        }
        CHECK.due("sixteen at most", x.count(12), 16);
        for (int i = 0; i < 16; i++) {
            CHECK.due("undo " + i, x.undo(), true);
            CHECK.due("tick behind undo " + i, x.count(4), 19 - i);
        }
        CHECK.due("the seventeenth", x.undo(), false);
        CHECK.due("tick 4 stays", x.count(4), 4);
        places("as in tick 4", x, 9, 0, 5);
        x.shut(1);
        CHECK.due("one more can be", x.count(12), 1);
        CHECK.due("undo that", x.undo(), true);
        CHECK.due("open", x.count(8), 7);
    }

    private static void judge(String day, int first, int said, int last) {
        RainGrammar x = Check.on(SQUARE);
        Check.day(x, day);
        x.tick();
        x.shut(0);
        CHECK.due("judged 0: " + day, x.judged(0), first);
        CHECK.due("judged 1: " + day, x.judged(1), said);
        CHECK.due("judged 2: " + day, x.judged(2), last);
        CHECK.due("nothing is done", x.count(4), 1);
        CHECK.due("nothing is shut", x.count(8), 6);
    }

    private static void judged() {
        judge("", -1, -1, 0);
        judge("tick;", -1, -1, 0);
        judge("shut c;", -1, -1, 0);
        judge("move a 1;move a 1;open b;tick;", 1, -1, 0);
        judge("open a;", 0, -1, 0);
        String turn = "move a 2;move a 2;move a 2;move a 2;move a 2;move a 2;move a 2;move a 2;shut c;";
        judge(turn + "tick;", -1, 7, 0);
        judge(turn + "tick;move b 1;tick;move b 2;open c;", 12, 7, 0);
        judge("shut c;" + turn, 9, 8, 1);
        RainGrammar x = Check.on(SQUARE.replace("at 8", "at 0").replace("at 5", "at 9"));
        CHECK.due("without a day, at last", x.judged(2), 1);
        Check.day(x, "open a;");
        CHECK.due("behind a line that can't be it is said", x.judged(1), 0);
        Check.day(x, "shut a;open a;open a;");
        CHECK.due("shut and opened: the third line can't be", x.judged(0), 2);
        CHECK.due("said behind the second line", x.judged(1), 1);
        CHECK.due("said at last", x.judged(2), 1);
        for (int what : new int[] {-2, -1, 3, Integer.MAX_VALUE}) {
            CHECK.due("judged " + what, x.judged(what), -2);
        }
    }

    private static void marks() {
        RainGrammar x = Check.on(SQUARE);
        Check.day(x, "tick;tick;");
        Check.wish(x, "red blue");
        x.see(1, 0, true);
        x.tick();
        x.shut(1);
        CHECK.due("lay", x.mark(3, false), true);
        CHECK.due("laying undoes nothing", x.count(12), 2);
        x.tick();
        x.open(1);
        x.see(2, 2, false);
        Check.day(x, "");
        Check.wish(x, "blue");
        Check.feed(x, "abc");
        CHECK.due("lay another", x.mark(0, false), true);
        CHECK.due("back", x.mark(3, true), true);
        int[] due = {3, 2, 1, 3, 1, 10, 1, 2, 5, 2, 2, 1, 0, 3};
        for (int what = 0; what < due.length; what++) {
            CHECK.due("back, count " + what, x.count(what), due[what]);
        }
        places("back", x, 9, 0, 5);
        CHECK.due("the wish's names", x.wished(), 1);
        CHECK.due("nothing can be undone", x.undo(), false);
        CHECK.due("a mark stays", x.mark(3, true), true);
        x.tick();
        CHECK.due("the other one", x.mark(0, true), true);
        CHECK.due("its tick", x.count(4), 2);
        CHECK.due("its seen", x.count(11), 2);
        CHECK.due("its wish", x.count(10), 1);
        x.mark(0, false);
        x.tick();
        x.mark(0, true);
        CHECK.due("laid over", x.count(4), 2);
        CHECK.due("never laid", x.mark(1, true), false);
        for (int mark : new int[] {-1, 4, Integer.MAX_VALUE}) {
            CHECK.due("mark " + mark, x.mark(mark, false), false);
            CHECK.due("mark back " + mark, x.mark(mark, true), false);
        }
    }

    private static void marksOfSights() {
        RainGrammar x = Check.on(SQUARE);
        x.mark(0, false);
        x.see(8, 0, true);
        Check.wish(x, "red");
        Check.day(x, "shut a;open b;");
        x.mark(1, false);
        x.mark(0, true);
        CHECK.due("nothing was seen", x.who(), 7);
        x.see(1, 0, true);
        Check.wish(x, "blue");
        Check.day(x, "open a;tick;");
        CHECK.due("b", x.who(), 2);
        CHECK.due("b shows it", x.steps(0), 1);
        x.mark(1, true);
        CHECK.due("a again", x.who(), 1);
        CHECK.due("a shows it", x.steps(0), 0);
        CHECK.due("the day again", x.judged(0), 1);
    }

    public static void main(String[] args) {
        ticks();
        moves();
        umbrellas();
        sixteen();
        judged();
        marks();
        marksOfSights();
        CHECK.end();
    }
}
