/** Each sentence of promises 6 to 13, 38 and 39 that names a boundary case, with a test of its own. */
public final class EdgesHandTest {
    private static final Check CHECK = new Check("EdgesHandTest");
    private static final String GRAMMAR = "sort n;sort v;sort s;colour red as n;colour blue as v;rule s is n v;says s;";
    private static final String FOUR = GRAMMAR + "walker a plain red at 0 goes 2 0 1;walker b bare blue at 9 goes 1;"
        + "walker c lover red at 5 goes 2 1;walker d bent blue at 5 goes 1 2 0 1 2 0;";
    private static final String TWO = GRAMMAR + "walker a plain red at 0 goes 0;walker b plain blue at 1 goes 0;";
    private static final String SEVEN = "sort n;colour red as n;" + Check.times("walker w@ plain red at 0 goes 1;", 7);
    private static final int[] FAR = {-1, -2, 7, 8, 31, 32, 33, 64, -32, Integer.MIN_VALUE, Integer.MAX_VALUE};

    private static void walker() {
        RainGrammar x = Check.on(FOUR);
        CHECK.about("walker: what 0: KIND (0 plain, 1 bare, 2 lover, 3 bent)");
        for (int w = 0; w < 4; w++) {
            CHECK.due("kind of " + w, x.walker(w, 0), w);
        }
        CHECK.about("walker: 1: COLOUR (as told, bent or bare)");
        int[] colours = {0, 1, 0, 1};
        for (int w = 0; w < 4; w++) {
            CHECK.due("colour of " + w, x.walker(w, 1), colours[w]);
        }
        CHECK.about("walker: 2: PLACE");
        int[] places = {0, 9, 5, 5};
        for (int w = 0; w < 4; w++) {
            CHECK.due("place of " + w, x.walker(w, 2), places[w]);
        }
        CHECK.about("walker: 3: 1 open");
        CHECK.due("open", x.walker(3, 3), 1);
        x.shut(3);
        CHECK.due("shut", x.walker(3, 3), 0);
        CHECK.due("another one", x.walker(2, 3), 1);
        x.open(3);
        CHECK.due("open again", x.walker(3, 3), 1);
    }

    private static void walkerSteps() {
        CHECK.about("walker: 4: the step of this tick");
        RainGrammar x = Check.on(FOUR);
        int[][] due = {{2, 1, 2, 1}, {0, 1, 1, 2}, {1, 1, 2, 0}, {2, 1, 1, 1}, {0, 1, 2, 2}, {1, 1, 1, 0}, {2, 1, 2, 1}};
        for (int t = 0; t < due.length; t++) {
            for (int w = 0; w < 4; w++) {
                CHECK.due("of " + w + " in tick " + t, x.walker(w, 4), due[t][w]);
            }
            x.tick();
        }
        x.undo();
        CHECK.due("undone, of the tick ahead", x.walker(2, 4), 2);
    }

    private static void walkerRead() {
        CHECK.about("walker: 5: 1 READ now");
        RainGrammar x = Check.on(FOUR + "gusts 10 10 0;");
        CHECK.due("read", x.walker(0, 5), 1);
        CHECK.due("a stop is read", x.walker(1, 5), 1);
        CHECK.due("the first one there", x.walker(2, 5), 1);
        CHECK.due("not the first one there", x.walker(3, 5), 0);
        x.move(3, 1);
        CHECK.due("elsewhere", x.walker(3, 5), 1);
        x.shut(3);
        CHECK.due("shut", x.walker(3, 5), 0);
        x.tick();
        CHECK.due("no gust", x.walker(0, 5), 1);
        x.tick();
        CHECK.due("in the gust", x.walker(0, 5), 0);
    }

    private static void walkerOthers() {
        CHECK.about("walker: -2: others");
        RainGrammar x = Check.on(SEVEN);
        for (int what = 0; what <= 5; what++) {
            CHECK.due("the seventh " + what, x.walker(6, what) == -2, false);
            for (int far : FAR) {
                CHECK.due("walker " + far + ", " + what, x.walker(far, what), -2);
            }
        }
        for (int what : new int[] {-1, -2, 6, 7, Integer.MIN_VALUE, Integer.MAX_VALUE}) {
            CHECK.due("what " + what, x.walker(0, what), -2);
            CHECK.due("what " + what + " of the last", x.walker(6, what), -2);
            CHECK.due("both, " + what, x.walker(what < 0 ? what : 7, what), -2);
        }
        x = Check.on(FOUR);
        CHECK.due("the fifth of four", x.walker(4, 0), -2);
        CHECK.due("the fourth of four", x.walker(3, 0), 3);
    }

    private static void read() {
        CHECK.about("read: The i-th (from 0) of what is READ: its COLOUR (6: a stop)");
        RainGrammar x = Check.on(FOUR);
        int[] row = {0, 0, 6};
        for (int i = 0; i < row.length; i++) {
            CHECK.due("the " + i, x.read(i), row[i]);
        }
        CHECK.about("read: NONE: none such");
        for (int i : new int[] {3, 4, 6, 7, -1, -2, Integer.MIN_VALUE, Integer.MAX_VALUE}) {
            CHECK.due("the " + i, x.read(i), -1);
        }
        x = Check.on(SEVEN + "reads 1;");
        CHECK.due("the seventh of seven", x.read(6), 0);
        CHECK.due("the eighth", x.read(7), -1);
        x = Check.on(SEVEN + "reads 0;");
        CHECK.due("nothing is read", x.read(0), -1);
    }

    private static void tickSays() {
        CHECK.about("tick: how many SENTENCES are SAID then");
        RainGrammar x = Check.on(TWO + "gusts 10 0 10;reads hour<4;");
        int[] due = {0, 1, 1, 0, 0};
        for (int t = 0; t < due.length; t++) {
            CHECK.due("tick to " + (t + 1), x.tick(), due[t]);
            CHECK.due("said then", x.said(), due[t]);
        }
        x = Check.on("sort n;colour red as n;says n;walker a plain red at 0 goes 0;walker b bare red at 1 goes 0;"
            + "walker c plain red at 2 goes 0;walker d bare red at 3 goes 0;walker e plain red at 4 goes 0;"
            + "walker f bare red at 5 goes 0;walker g plain red at 6 goes 0;");
        CHECK.due("as many as can be", x.tick(), 4);
        x = new RainGrammar();
        CHECK.due("no square", x.tick(), 0);
        CHECK.due("the next tick is, though", x.count(4), 1);
    }

    private static void tickSteps() {
        CHECK.about("TICK: each WALKER goes by the step for it .. who can (PLACES 0 to 9): the next tick is");
        RainGrammar x = Check.on(GRAMMAR + "walker a plain red at 8 goes 1;walker b plain red at 1 goes 2;"
            + "walker c bare red at 4 goes 0;walker d lover red at 9 goes 1 2;walker e bent red at 0 goes 2 1;");
        x.shut(0);
        int[][] due = {{9, 0, 4, 9, 0}, {9, 0, 4, 8, 1}, {9, 0, 4, 9, 0}, {9, 0, 4, 8, 1}};
        for (int t = 0; t < due.length; t++) {
            x.tick();
            for (int w = 0; w < 5; w++) {
                CHECK.due("walker " + w + " behind tick " + t, x.walker(w, 2), due[t][w]);
            }
            CHECK.due("the tick", x.count(4), t + 1);
        }
    }

    private static void manyTicks() {
        CHECK.about("An object is used for at most 512 calls");
        RainGrammar x = Check.on(GRAMMAR + "walker a plain red at 0 goes 1 1 1 2 2 2;walker b plain blue at 5 goes 1 2;"
            + "gusts 10 10 10 10 10 10 10 6;");
        for (int t = 1; t <= 400; t++) {
            CHECK.due("tick " + t, x.tick(), t % 8 == 7 ? 0 : 1);
        }
        CHECK.due("the tick", x.count(4), 400);
        CHECK.due("400 modulo 6 is 4: behind three and back one", x.walker(0, 2), 2);
        CHECK.due("400 modulo 2", x.walker(1, 2), 5);
        CHECK.due("later", x.later(0, 60), 2);
        CHECK.due("later, in 459", x.later(0, 59), 3);
        for (int i = 0; i < 16; i++) {
            x.undo();
        }
        CHECK.due("sixteen undone", x.count(4), 384);
        CHECK.due("and no more", x.undo(), false);
    }

    private static void move() {
        CHECK.about("move: MOVE by a step (1, 2): the PLACE then");
        RainGrammar x = Check.on(FOUR);
        for (int place = 1; place <= 9; place++) {
            CHECK.due("to " + place, x.move(0, 1), place);
            CHECK.due("is at " + place, x.walker(0, 2), place);
        }
        CHECK.about("move: NONE: .. it can't");
        CHECK.due("beyond 9", x.move(0, 1), -1);
        CHECK.due("stays at 9", x.walker(0, 2), 9);
        for (int place = 8; place >= 0; place--) {
            CHECK.due("to " + place, x.move(0, 2), place);
        }
        CHECK.due("ahead of 0", x.move(0, 2), -1);
        CHECK.due("stays at 0", x.walker(0, 2), 0);
        CHECK.due("undone, what could be alone", x.count(12), 16);
        x.shut(2);
        CHECK.due("one who is shut goes, too", x.move(2, 2), 4);
        CHECK.due("the tick stays", x.count(4), 0);
    }

    private static void moveOthers() {
        CHECK.about("move: NONE: others");
        RainGrammar x = Check.on(SEVEN);
        CHECK.due("the last one", x.move(6, 1), 1);
        for (int far : FAR) {
            CHECK.due("walker " + far, x.move(far, 1), -1);
        }
        for (int step : new int[] {0, 3, 4, -1, -2, Integer.MIN_VALUE, Integer.MAX_VALUE}) {
            CHECK.due("step " + step, x.move(6, step), -1);
            CHECK.due("both, " + step, x.move(7, step), -1);
        }
        CHECK.due("stays", x.walker(6, 2), 1);
        CHECK.due("one can be undone", x.count(12), 1);
        x = Check.on(FOUR);
        CHECK.due("the fifth of four", x.move(4, 1), -1);
    }

    private static void shutAndOpen() {
        RainGrammar x = Check.on(SEVEN);
        CHECK.about("shut: SHUT: true / open: OPEN: true");
        for (int w = 0; w < 7; w++) {
            CHECK.due("shut " + w, x.shut(w), true);
            CHECK.due("bits", x.count(8), 127 & -(2 << w));
        }
        for (int w = 0; w < 7; w++) {
            CHECK.due("open " + w, x.open(w), true);
            CHECK.due("bits", x.count(8), (2 << w) - 1);
        }
        CHECK.about("shut: false: .. it is / open: false: .. it is");
        CHECK.due("open is", x.open(6), false);
        x.shut(6);
        CHECK.due("shut is", x.shut(6), false);
        CHECK.due("stays shut", x.walker(6, 3), 0);
        CHECK.due("undone, what could be alone", x.count(12), 15);
        CHECK.about("shut, open: false: others");
        for (int far : FAR) {
            CHECK.due("shut " + far, x.shut(far), false);
            CHECK.due("open " + far, x.open(far), false);
        }
        CHECK.due("nothing is done", x.count(8), 63);
        CHECK.due("nothing more to undo", x.count(12), 15);
        x = Check.on(FOUR);
        CHECK.due("the fifth of four", x.shut(4), false);
        CHECK.due("the fifth of four", x.open(4), false);
    }

    private static void undo() {
        CHECK.about("UNDO: all of these .. one by one (tick, move, shut, open)");
        RainGrammar x = Check.on(FOUR);
        String start = Check.state(x);
        x.move(3, 1);
        x.shut(0);
        x.tick();
        x.open(0);
        CHECK.due("undo open", x.undo(), true);
        CHECK.due("shut again", x.walker(0, 3), 0);
        CHECK.due("undo tick", x.undo(), true);
        CHECK.due("the tick ahead", x.count(4), 0);
        CHECK.due("where it was moved", x.walker(3, 2), 6);
        CHECK.due("undo shut", x.undo(), true);
        CHECK.due("open again", x.walker(0, 3), 1);
        CHECK.due("undo move", x.undo(), true);
        CHECK.due("all is as ahead", Check.state(x), start);
        CHECK.about("undo: false: nothing can be");
        CHECK.due("no more", x.undo(), false);
        CHECK.due("and no more", x.undo(), false);
        CHECK.due("all stays", Check.state(x), start);
    }

    private static void undoRefused() {
        CHECK.about("UNDO: all of these (what can't be is none of these)");
        RainGrammar x = Check.on(FOUR);
        x.open(0);
        x.move(0, 2);
        x.move(0, 0);
        x.shut(4);
        Check.day(x, "tick;shut a;");
        Check.wish(x, "red");
        x.see(0, 0, true);
        x.mark(0, false);
        x.judged(2);
        x.days(1, 99, 0);
        x.when();
        CHECK.due("none", x.count(12), 0);
        CHECK.due("nothing can be", x.undo(), false);
        x.tick();
        x.open(0);
        CHECK.due("undo the tick", x.undo(), true);
        CHECK.due("the day stays", x.count(9), 2);
        CHECK.due("the wish stays", x.count(10), 1);
        CHECK.due("what is seen stays", x.count(11), 1);
        CHECK.due("to undo is not to be undone", x.count(12), 0);
    }

    private static void undoSixteen() {
        CHECK.about("UNDO: .. the last 16");
        for (int done : new int[] {15, 16, 17, 18, 31, 32, 33}) {
            RainGrammar x = Check.on(TWO);
            for (int i = 0; i < done; i++) {
                CHECK.due("can be undone behind " + i, x.count(12), Math.min(i, 16));
                x.tick();
            }
            int all = Math.min(done, 16);
            for (int i = 1; i <= all; i++) {
                CHECK.due("undo " + i + " of " + done, x.undo(), true);
                CHECK.due("the tick", x.count(4), done - i);
                CHECK.due("left", x.count(12), all - i);
            }
            CHECK.due("no more of " + done, x.undo(), false);
            CHECK.due("stays", x.count(4), done - all);
        }
        RainGrammar x = Check.on(TWO);
        for (int i = 0; i < 20; i++) {
            x.tick();
        }
        x.undo();
        x.undo();
        x.shut(0);
        x.shut(1);
        x.tick();
        CHECK.due("sixteen again", x.count(12), 16);
        for (int i = 0; i < 16; i++) {
            CHECK.due("undo " + i, x.undo(), true);
        }
        CHECK.due("five ticks stay", x.count(4), 5);
        CHECK.due("open", x.count(8), 3);
        CHECK.due("no more", x.undo(), false);
    }

    private static void judge(String what, String square, String day, int first, int said, int last) {
        RainGrammar x = Check.on(square);
        CHECK.due("day " + day, Check.day(x, day), 0);
        CHECK.due(what + ", 0", x.judged(0), first);
        CHECK.due(what + ", 1", x.judged(1), said);
        CHECK.due(what + ", 2", x.judged(2), last);
    }

    private static void judgedLines() {
        CHECK.about("JUDGED: the first line (from 0) that can't be");
        judge("no line", TWO, "", -1, -1, 1);
        judge("a tick alone", TWO, "tick;", -1, 0, 1);
        judge("the first", TWO, "open a;shut a;", 0, 0, 0);
        judge("at 0, ahead", TWO, "move b 1;move a 2;", 1, 0, 1);
        judge("at 9, behind", TWO.replace("at 1", "at 9"), "tick;tick;move b 1;", 2, 0, 1);
        judge("a second shut", TWO, "shut b;tick;shut b;open b;open b;", 2, 3, 1);
        judge("the fortieth", TWO, Check.times("tick;", 39) + "open a;", 39, 0, 1);
        judge("forty that can be", TWO, Check.times("tick;", 40), -1, 0, 1);
        CHECK.about("JUDGED: a tick always can");
        judge("nobody can go", TWO.replace("at 0 goes 0", "at 0 goes 2").replace("at 1 goes 0", "at 9 goes 1"),
            "tick;tick;", -1, 0, 1);
        RainGrammar x = new RainGrammar();
        Check.day(x, "tick;tick;");
        CHECK.due("nobody is there", x.judged(0), -1);
        CHECK.due("nothing is said", x.judged(1), -1);
        CHECK.due("at last", x.judged(2), 0);
    }

    private static void judgedSaid() {
        CHECK.about("JUDGED: the first one behind which a SENTENCE is SAID");
        judge("never", TWO, "shut a;tick;tick;", -1, -1, 0);
        judge("behind the first", TWO, "tick;shut a;", -1, 0, 0);
        judge("behind the fortieth", TWO, "shut a;" + Check.times("tick;", 38) + "open a;", -1, 39, 1);
        judge("said at the beginning, behind no line", TWO, "shut b;", -1, -1, 0);
        judge("by the gust of the day's tick", TWO + "gusts 0 1 10;", "tick;tick;tick;", -1, 1, 0);
        judge("by the hour of the day's tick", TWO + "reads hour=3;", "tick;tick;tick;tick;", -1, 2, 0);
        CHECK.about("JUDGED: how many are at last");
        judge("two", GRAMMAR + "walker a plain red at 0 goes 0;walker b plain blue at 1 goes 0;walker c bare red at 2 goes 0;"
            + "walker d plain red at 3 goes 0;walker e plain blue at 4 goes 0;", "shut c;open c;", -1, 1, 2);
        CHECK.about("JUDGED: a line that can be is done");
        judge("moved", TWO, "move b 1;move a 1;move a 1;move a 1;", -1, 0, 0);
        judge("moved past one another and back", TWO, "move a 1;move a 1;move a 2;move a 2;", -1, 3, 1);
        CHECK.about("JUDGED: a line that can't be is left out");
        judge("a step is not made elsewhere", TWO, "move a 2;move a 1;move b 1;", 0, 0, 1);
        judge("opened once, shut once", TWO, "open a;open a;shut a;", 0, 0, 0);
    }

    private static void judgedFromTheBeginning() {
        CHECK.about("JUDGED: the DAY from the beginning / (nothing else being done)");
        RainGrammar x = Check.on(TWO.replace("at 1 goes 0", "at 1 goes 1") + "gusts 10 10 0;");
        Check.day(x, "shut a;tick;open a;");
        x.tick();
        x.tick();
        x.shut(0);
        x.shut(1);
        String before = Check.state(x);
        CHECK.due("all can be", x.judged(0), -1);
        CHECK.due("said behind the third", x.judged(1), 2);
        CHECK.due("at last", x.judged(2), 1);
        CHECK.due("nothing is done", Check.state(x), before);
        CHECK.about("judged: -2: others");
        for (int what : new int[] {3, 4, -1, -2, Integer.MIN_VALUE, Integer.MAX_VALUE}) {
            CHECK.due("what " + what, x.judged(what), -2);
        }
    }

    private static void marks() {
        CHECK.about("mark: A MARK is laid (back: gone back to): true / MARKS 0 to 3");
        RainGrammar x = Check.on(TWO);
        String[] held = new String[4];
        for (int mark = 0; mark < 4; mark++) {
            Check.day(x, Check.times("tick;", mark + 1));
            Check.wish(x, Check.times("red ", mark + 1));
            x.see(mark, mark, false);
            x.tick();
            x.move(0, 1);
            CHECK.due("lay " + mark, x.mark(mark, false), true);
        }
        x.tick();
        x.shut(1);
        for (int mark = 0; mark < 4; mark++) {
            CHECK.due("back to " + mark, x.mark(mark, true), true);
            CHECK.due("the tick", x.count(4), mark + 1);
            CHECK.due("the place", x.walker(0, 2), mark + 1);
            CHECK.due("open", x.count(8), 3);
            CHECK.due("the day", x.count(9), mark + 1);
            CHECK.due("the wish", x.count(10), mark + 1);
            CHECK.due("seen", x.count(11), mark + 1);
            held[mark] = x.who() + " " + x.judged(2);
        }
        for (int mark = 3; mark >= 0; mark--) {
            x.shut(0);
            CHECK.due("again, back to " + mark, x.mark(mark, true), true);
            CHECK.due("as it was", x.who() + " " + x.judged(2), held[mark]);
            CHECK.due("open", x.count(8), 3);
        }
    }

    private static void marksWrong() {
        CHECK.about("mark: false: none such");
        RainGrammar x = Check.on(TWO);
        x.tick();
        String before = Check.state(x);
        for (int mark : new int[] {-1, -2, 4, 5, 32, Integer.MIN_VALUE, Integer.MAX_VALUE}) {
            CHECK.due("lay " + mark, x.mark(mark, false), false);
            CHECK.due("back to " + mark, x.mark(mark, true), false);
        }
        CHECK.about("mark: false: .. nothing is on it (back)");
        for (int mark = 0; mark < 4; mark++) {
            CHECK.due("back to " + mark, x.mark(mark, true), false);
        }
        CHECK.due("all stays", Check.state(x), before);
        x.mark(2, false);
        for (int mark = 0; mark < 4; mark++) {
            CHECK.due("one is laid: back to " + mark, x.mark(mark, true), mark == 2);
        }
        x = new RainGrammar();
        CHECK.due("laid without a square", x.mark(3, false), true);
        x.tick();
        CHECK.due("back", x.mark(3, true), true);
        CHECK.due("tick 0", x.count(4), 0);
        CHECK.due("a square", Check.square(x, ""), 0);
        CHECK.due("no mark is there", x.mark(3, true), false);
    }

    private static void marksAndUndo() {
        CHECK.about("MARKS .. (nothing can be undone when one is gone back to)");
        RainGrammar x = Check.on(TWO);
        x.tick();
        x.shut(0);
        x.mark(0, false);
        CHECK.due("laid, all can be undone", x.count(12), 2);
        x.open(0);
        x.mark(0, true);
        CHECK.due("none", x.count(12), 0);
        CHECK.due("nothing can be", x.undo(), false);
        CHECK.due("as it was laid", x.count(8), 2);
        x.tick();
        CHECK.due("what comes can be", x.undo(), true);
        CHECK.due("as it was laid", x.count(4), 1);
        x.mark(1, true);
        x.tick();
        CHECK.due("one that is not there changes nothing", x.count(12), 1);
        Check.feed(x, "abc");
        x.mark(0, true);
        CHECK.due("the tape is not held", x.count(13), 3);
    }

    private static void marksHoldRows() {
        CHECK.about("MARKS 0 to 3 hold how it is, the DAY, the WISH, what is SEEN");
        RainGrammar x = Check.on(FOUR);
        Check.day(x, Check.times("shut a;open a;", 20));
        Check.wish(x, Check.times("red ", 7));
        for (int i = 0; i < 8; i++) {
            x.see(9, i, false);
        }
        x.mark(0, false);
        String held = Check.state(x);
        Check.day(x, "open a;");
        Check.wish(x, "blue blue");
        x.tick();
        x.mark(1, false);
        x.mark(0, true);
        CHECK.due("full rows", Check.state(x), held);
        CHECK.due("eight are seen", x.see(0, 0, false), false);
        Check.day(x, "");
        x.mark(2, false);
        Check.day(x, "tick;");
        x.mark(2, true);
        CHECK.due("an empty day", x.count(9), 0);
        x.mark(1, true);
        CHECK.due("another day", x.judged(0), 0);
        CHECK.due("another wish", x.count(10), 2);
        x.mark(0, false);
        x.tick();
        x.mark(0, true);
        CHECK.due("laid over", x.count(9), 1);
        CHECK.due("laid over, the tick", x.count(4), 1);
    }

    private static void marksHoldSights() {
        CHECK.about("MARKS 0 to 3 hold .. what is SEEN");
        RainGrammar x = Check.on(TWO);
        x.mark(0, false);
        x.see(0, 0, true);
        x.mark(1, false);
        x.mark(0, true);
        CHECK.due("nothing", x.who(), 3);
        x.see(1, 0, true);
        CHECK.due("the second one", x.who(), 2);
        x.mark(2, false);
        x.mark(1, true);
        CHECK.due("the first one", x.who(), 1);
        x.see(0, 40, false);
        CHECK.due("nobody", x.who(), 0);
        x.mark(2, true);
        CHECK.due("the second one again", x.who(), 2);
        CHECK.due("one is seen", x.count(11), 1);
    }

    private static void count() {
        RainGrammar x = Check.on(Check.times("sort s@;", 6) + Check.times("colour c@ as sa;", 6)
            + Check.times("walker w@ plain cb at 3 goes 0;", 7) + "gusts 9 3;reads 1;"
            + "rule sa is sa sa;rule sa is sa sb;rule sa is sa sc;rule sa is sa sd;rule sa is sa se;rule sa is sa sf;"
            + "rule sb is sa sa;rule sb is sa sb;rule sb is sa sc;rule sb is sa sd;rule sb is sa se;rule sb is sa sf;");
        int[] full = {6, 6, 12, 7, 0, 9, 1, 7, 127, 0, 0, 0, 0, 0};
        for (int what = 0; what < full.length; what++) {
            CHECK.about("count: what " + what);
            CHECK.due("full", x.count(what), full[what]);
        }
        Check.day(x, Check.times("tick;", 40));
        Check.wish(x, Check.times("ca ", 7));
        for (int i = 0; i < 9; i++) {
            x.see(0, 0, false);
        }
        for (int i = 0; i < 17; i++) {
            x.tick();
        }
        Check.feed(x, " ".repeat(1010));
        int[] later = {6, 6, 12, 7, 17, 3, 0, 0, 127, 40, 7, 8, 16, 1000};
        for (int what = 0; what < later.length; what++) {
            CHECK.about("count: what " + what);
            CHECK.due("behind 17 ticks", x.count(what), later[what]);
        }
        CHECK.about("count: NONE for another what");
        for (int what : new int[] {14, 15, -1, -2, Integer.MIN_VALUE, Integer.MAX_VALUE}) {
            CHECK.due("count " + what, x.count(what), -1);
        }
    }

    public static void main(String[] args) {
        walker();
        walkerSteps();
        walkerRead();
        walkerOthers();
        read();
        tickSays();
        tickSteps();
        manyTicks();
        move();
        moveOthers();
        shutAndOpen();
        undo();
        undoRefused();
        undoSixteen();
        judgedLines();
        judgedSaid();
        judgedFromTheBeginning();
        marks();
        marksWrong();
        marksAndUndo();
        marksHoldRows();
        marksHoldSights();
        count();
        CHECK.end();
    }
}
