/** Each sentence of what is READ and of promises 14 to 27 that names a boundary case, with a test of its own. */
public final class EdgesReadingTest {
    private static final Check CHECK = new Check("EdgesReadingTest");
    private static final String GRAMMAR = "sort n;sort v;sort s;colour red as n;colour blue as v;rule s is n v;says s;";
    private static final String ALIKE = "sort n;colour red as n;rule n is n n;";
    private static final int[] FAR = {-1, -2, 7, 32, Integer.MIN_VALUE, Integer.MAX_VALUE};

    private static String w(String name, String kind, String colour, int place) {
        return "walker " + name + " " + kind + " " + colour + " at " + place + " goes 0;";
    }

    /** Walkers at 0, 1 .. by signs: r red, b blue, a stop (.), a bent red (R), a bent blue (B). */
    private static String row(String signs) {
        StringBuilder b = new StringBuilder();
        for (int i = 0; i < signs.length(); i++) {
            char sign = signs.charAt(i);
            String kind = sign == '.' ? "bare" : sign == 'R' || sign == 'B' ? "bent" : "plain";
            b.append(w("w" + (char) ('a' + i), kind, sign == 'b' || sign == 'B' ? "blue" : "red", i));
        }
        return b.toString();
    }

    private static String read(RainGrammar x) {
        StringBuilder b = new StringBuilder();
        for (int i = 0; i < 8 && x.read(i) != -1; i++) {
            b.append(x.read(i));
        }
        return b.toString();
    }

    private static void order() {
        CHECK.about("READ are, by PLACES, then numbers");
        RainGrammar x = Check.on("sort s;" + Check.times("colour c@ as s;", 6) + w("wa", "plain", "cf", 9)
            + w("wb", "plain", "ce", 9) + w("wc", "bare", "ca", 5) + w("wd", "plain", "cd", 5) + w("we", "plain", "cc", 0)
            + w("wf", "plain", "cb", 0) + w("wg", "plain", "ca", 0) + "reads 1;");
        CHECK.due("read", read(x), "2106354");
        x.move(6, 1);
        CHECK.due("one goes", read(x), "2106354");
        x.move(4, 1);
        CHECK.due("another one goes", read(x), "1206354");
        x = Check.on("sort s;" + Check.times("colour c@ as s;", 6) + w("wa", "plain", "ca", 6) + w("wb", "plain", "cb", 5)
            + w("wc", "plain", "cc", 4) + w("wd", "plain", "cd", 3) + w("we", "plain", "ce", 2)
            + w("wf", "plain", "cf", 1) + w("wg", "bare", "ca", 0));
        CHECK.due("the other way round", read(x), "6543210");
    }

    private static void gusts() {
        CHECK.about("READ: at no PLACE where the gust of the tick is (10: none)");
        for (int gust = 0; gust <= 10; gust++) {
            RainGrammar x = Check.on(GRAMMAR + w("a", "plain", "red", 0) + w("b", "lover", "red", 0) + w("c", "bent", "red", 9)
                + w("d", "bare", "red", 9) + w("e", "plain", "blue", 4) + "gusts " + gust + ";reads 1;");
            String due = (gust == 0 ? "" : "00") + (gust == 4 ? "" : "1") + (gust == 9 ? "" : "16");
            CHECK.due("gust " + gust, read(x), due);
        }
    }

    private static void umbrellas() {
        CHECK.about("READ: the WALKERS whose umbrella is open");
        RainGrammar x = Check.on(GRAMMAR + row("rb.rb.r"));
        x.shut(0);
        CHECK.due("without the first", read(x), "160160");
        x.shut(6);
        CHECK.due("without the last", read(x), "16016");
        x.shut(2);
        CHECK.due("without a stop", read(x), "1016");
        for (int i = 0; i < 7; i++) {
            x.shut(i);
        }
        CHECK.due("without all", read(x), "");
        CHECK.due("no sentence", x.count(6), 0);
    }

    private static void lovers() {
        CHECK.about("READ: no lover beside whom another lover, shut or not, stands at the same PLACE");
        String two = w("a", "lover", "red", 3) + w("b", "lover", "blue", 3);
        RainGrammar x = Check.on(GRAMMAR + two + "reads 1;");
        CHECK.due("two", read(x), "");
        x.shut(0);
        CHECK.due("the first is shut", read(x), "");
        x.open(0);
        x.shut(1);
        CHECK.due("the second is shut", read(x), "");
        x.move(1, 1);
        CHECK.due("at the next place", read(x), "0");
        x.open(1);
        CHECK.due("open there", read(x), "01");
        x.move(0, 1);
        CHECK.due("together again", read(x), "");
        x = Check.on(GRAMMAR + two + w("c", "lover", "red", 3) + w("d", "lover", "blue", 2) + "reads 1;");
        CHECK.due("three and one", read(x), "1");
        for (String kind : new String[] {"plain", "bent", "bare"}) {
            x = Check.on(GRAMMAR + w("a", "lover", "red", 3) + w("b", kind, "red", 3) + "reads 1;");
            CHECK.due("a lover and a " + kind, x.walker(0, 5), 1);
            CHECK.due("a " + kind + " and a lover", x.walker(1, 5), 1);
        }
        x = Check.on(GRAMMAR + two);
        CHECK.due("without reads", read(x), "");
    }

    private static void bent() {
        CHECK.about("a bent one as the COLOUR behind that (of the last one the first)");
        for (int colours = 1; colours <= 6; colours++) {
            for (int told = 0; told < colours; told++) {
                RainGrammar x = Check.on("sort s;" + Check.times("colour c@ as s;", colours)
                    + w("w", "bent", "c" + (char) ('a' + told), 0));
                CHECK.due(told + " of " + colours, x.read(0), (told + 1) % colours);
                CHECK.due("told as it is", x.walker(0, 1), told);
            }
        }
    }

    private static void sentences(String signs, int sentences, int said) {
        RainGrammar x = Check.on(GRAMMAR + row(signs));
        CHECK.due(signs + ", sentences", x.count(6), sentences);
        CHECK.due(signs + ", said", x.said(), said);
        CHECK.due(signs + ", read", x.count(7), signs.length());
        CHECK.due(signs + ", the last one", x.ways(sentences - 1) == -1, sentences == 0);
        CHECK.due(signs + ", one more", x.ways(sentences), -1);
    }

    private static void stops() {
        CHECK.about("SENTENCES are what is READ between stops, without these, of one WALKER at least, numbered from 0 on");
        sentences("", 0, 0);
        sentences(".", 0, 0);
        sentences(".......", 0, 0);
        sentences("r", 1, 0);
        sentences("rb", 1, 1);
        sentences(".rb", 1, 1);
        sentences("rb.", 1, 1);
        sentences("..rb...", 1, 1);
        sentences("rb.rb", 2, 2);
        sentences("rb..rb.", 2, 2);
        sentences("r.b", 2, 0);
        sentences("r.b.r.b", 4, 0);
        sentences("rb.rb.r", 3, 2);
        sentences("rR.Bb.b", 3, 2);
        sentences("rbrbrbr", 1, 0);
        RainGrammar x = Check.on(GRAMMAR + row("r.rb.b"));
        CHECK.due("sentence 0", x.ways(0), 0);
        CHECK.due("sentence 1", x.ways(1), 1);
        CHECK.due("sentence 2", x.ways(2), 0);
    }

    private static void law(String e, String due) {
        RainGrammar x = Check.on(GRAMMAR + w("a", "plain", "red", 0) + w("b", "plain", "blue", 9) + w("c", "lover", "red", 9)
            + w("d", "bent", "blue", 9) + w("e", "plain", "red", 4) + "reads " + e + ";");
        x.shut(1);
        StringBuilder b = new StringBuilder();
        for (int i = 0; i < 5; i++) {
            b.append(x.walker(i, 5));
        }
        CHECK.due("reads " + e, b.toString(), due);
    }

    private static final String ALL = "10111";
    private static final String NOBODY = "00000";

    private static void facts() {
        CHECK.about("Facts: spot (the PLACE)");
        law("spot=0", "10000");
        law("spot=9", "00110");
        law("spot=4", "00001");
        CHECK.about("Facts: crowd (how many others stand there, shut or not)");
        law("crowd=0", "10001");
        law("crowd=1", NOBODY);
        law("crowd=2", "00110");
        law("crowd=3", NOBODY);
        CHECK.about("Facts: first (1: nobody of a lower number stands there)");
        law("first=1", "10001");
        law("first=0", "00110");
        law("first=2", NOBODY);
        CHECK.about("Facts: hour (the tick's number)");
        law("hour=0", ALL);
        RainGrammar x = Check.on(GRAMMAR + w("a", "plain", "red", 0) + "reads hour=17;");
        for (int t = 0; t < 20; t++) {
            CHECK.due("in tick " + t, x.count(7), t == 17 ? 1 : 0);
            x.tick();
        }
        CHECK.about("Facts: crowd (seven at one place)");
        x = Check.on("sort s;colour c as s;" + Check.times("walker w@ plain c at 9 goes 0;", 7) + "reads crowd=6;");
        CHECK.due("six others", x.count(7), 7);
        CHECK.about("Without reads: first");
        x = Check.on("sort s;colour c as s;" + Check.times("walker w@ plain c at 9 goes 0;", 7));
        CHECK.due("one of seven", x.count(7), 1);
        CHECK.due("the first", x.walker(0, 5), 1);
        x.shut(0);
        CHECK.due("shut, he stands there", x.count(7), 0);
        x.move(0, 2);
        CHECK.due("gone, the next one is", x.walker(1, 5), 1);
        CHECK.due("alone", x.count(7), 1);
    }

    private static void truth() {
        CHECK.about("E: what is not 0 is so");
        law("0", NOBODY);
        law("1", ALL);
        law("0-1", ALL);
        law("9999", ALL);
        law("not 9999", NOBODY);
        law("not (0-1)", NOBODY);
        law("not 0", ALL);
        law("5 and 0-5", ALL);
        law("0 or 0-5", ALL);
        law("0-5 and 0", NOBODY);
        law("0 and 7", NOBODY);
        law("0 or 0", NOBODY);
        CHECK.about("E: Of not, and, or, < and = comes 1 or 0");
        law("not 0=1", ALL);
        law("(not 9)=0", ALL);
        law("(7 and 7)=1", ALL);
        law("(7 and 0)=0", ALL);
        law("(0 or 7)=1", ALL);
        law("(0 or 0)=0", ALL);
        law("(3<9)=1", ALL);
        law("(9<3)=0", ALL);
        law("(3<3)=0", ALL);
        law("(3=3)=1", ALL);
        law("(3=4)=0", ALL);
        law("(0-1<0)=1", ALL);
        CHECK.about("E: from the left");
        law("1 or 1 and 0", NOBODY);
        law("0 and 1 or 1", ALL);
        law("9-3-2=4", ALL);
        law("9-3+2=8", ALL);
        law("2+3*4=14", ALL);
        law("(2+3)*4=20", ALL);
        law("2*3*4=24", ALL);
        law("not 1+1", ALL);
        law("not(1+1)", NOBODY);
        law("not 0*5=5", ALL);
        law("1+1<1+2", ALL);
        law("1<2 and 2<1", NOBODY);
    }

    private static void wraps() {
        CHECK.about("E: ints wrap");
        String most = "4634*10*4634*10+9999*8+8055";
        law(most + "<0", NOBODY);
        law("0<" + most, ALL);
        law("0<" + most + "+1", NOBODY);
        law(most + "+1<0", ALL);
        law("0-(" + most + ")-1<0", ALL);
        law("0-(" + most + ")-2<0", NOBODY);
        law("0-(" + most + ")-2=" + most, ALL);
        law("(" + most + "+1)*2", NOBODY);
        law("(" + most + ")*2=0-2", ALL);
        law("4096*4096*256", NOBODY);
        law("4096*4096*128<0", ALL);
        law("4096*4096*127<0", NOBODY);
    }

    private static void said() {
        CHECK.about("SAID: how many SENTENCES are");
        String[] rows = {"", "b", "rb", "rb.rb", "r.r.r.r"};
        for (int n = 0; n < rows.length; n++) {
            String grammar = n == 4 ? "sort n;colour red as n;says n;" : GRAMMAR;
            RainGrammar x = Check.on(grammar + row(rows[n]));
            CHECK.due(rows[n], x.said(), n == 0 ? 0 : n == 4 ? 4 : n - 1);
        }
        CHECK.about("says: a SORT told (the first one)");
        RainGrammar x = Check.on("sort s;sort n;colour red as n;colour blue as s;" + row("b.r"));
        CHECK.due("without says, of the first sort", x.said(), 1);
        CHECK.due("the blue one", x.ways(0), 1);
        CHECK.due("not the red one", x.ways(1), 0);
    }

    private static void ways() {
        CHECK.about("WAYS: of a SENTENCE (0: it is not SAID)");
        int[] due = {1, 1, 2, 5, 14, 42, 132};
        for (int n = 1; n <= 7; n++) {
            RainGrammar x = Check.on(ALIKE + row("r".repeat(n)));
            CHECK.due("alike, " + n, x.ways(0), due[n - 1]);
        }
        RainGrammar x = Check.on(GRAMMAR + row("br.rb.r"));
        CHECK.due("not said", x.ways(0), 0);
        CHECK.due("said", x.ways(1), 1);
        CHECK.due("one colour, of another sort", x.ways(2), 0);
        CHECK.about("ways: NONE: no such SENTENCE");
        CHECK.due("the fourth of three", x.ways(3), -1);
        for (int far : FAR) {
            CHECK.due("ways " + far, x.ways(far), -1);
        }
        CHECK.due("of none", Check.on(GRAMMAR).ways(0), -1);
        CHECK.due("of stops alone", Check.on(GRAMMAR + row("...")).ways(0), -1);
        CHECK.about("WAYS: of both, multiplied, added up by rules and pieces");
        x = Check.on("sort a;sort b;sort c;sort s;colour red as a;colour blue as b;rule s is a b;rule s is c b;rule c is a a;"
            + "rule a is a a;says s;" + row("rrrb"));
        CHECK.due("two trees by a b, two by c b", x.ways(0), 2 + 2);
    }

    private static void sorts() {
        CHECK.about("SORTS of a part of one, from its i-th one to its k-th one (from 0)");
        RainGrammar x = Check.on(GRAMMAR + "rule n is s v;" + row("rbb.rbr"));
        int[][] due = {{1, 4, 1}, {0, 2, 0}, {0, 0, 2}};
        for (int i = 0; i < 3; i++) {
            for (int k = i; k < 3; k++) {
                CHECK.due("0, " + i + " to " + k, x.sorts(0, i, k), due[i][k]);
            }
        }
        CHECK.due("the whole of the other one", x.sorts(1, 0, 2), 0);
        CHECK.due("its last one", x.sorts(1, 2, 2), 1);
        CHECK.about("sorts: NONE: no such part");
        int[][] wrong = {{-1, 0}, {-1, -1}, {0, 3}, {3, 3}, {2, 1}, {1, 0}, {3, 2}, {0, -1}, {Integer.MIN_VALUE, 2},
            {0, Integer.MAX_VALUE}, {Integer.MAX_VALUE, Integer.MAX_VALUE}, {0, 7}, {7, 7}};
        for (int[] part : wrong) {
            CHECK.due(part[0] + " to " + part[1], x.sorts(0, part[0], part[1]), -1);
        }
        CHECK.about("sorts: NONE: no such SENTENCE");
        CHECK.due("the third of two", x.sorts(2, 0, 0), -1);
        for (int far : FAR) {
            CHECK.due("sorts " + far, x.sorts(far, 0, 0), -1);
        }
        x = Check.on(Check.times("sort s@;", 6) + "colour red as sf;rule sa is sf sf;rule sb is sf sf;rule sc is sf sf;"
            + "rule sd is sf sf;rule se is sf sf;rule sf is sf sf;" + row("rrrrrrr"));
        CHECK.due("all six", x.sorts(0, 5, 6), 63);
        CHECK.due("seven of the six", x.sorts(0, 0, 6), 63);
        CHECK.due("the eighth", x.sorts(0, 0, 7), -1);
    }

    private static void chain(int n) {
        RainGrammar x = Check.on("sort n;sort s;colour red as n;rule s is n s;rule s is n n;says s;" + row("r".repeat(n)));
        CHECK.due("a chain of " + n, x.depth(0), n - 1);
        for (int i = 0; i < n - 2; i++) {
            CHECK.due("its rule " + i, x.tree(0, i), 0);
        }
        CHECK.due("its last rule", x.tree(0, n - 2), 1);
        CHECK.due("no more", x.tree(0, n - 1), -1);
    }

    private static void depth() {
        CHECK.about("DEPTH of a tree of it: 0 for a COLOUR, 1 more than the deeper one of both pieces for a rule .. the least");
        int[] least = {0, 1, 2, 2, 3, 3, 3};
        for (int n = 1; n <= 7; n++) {
            RainGrammar x = Check.on(ALIKE + row("r".repeat(n)));
            CHECK.due("alike, " + n, x.depth(0), least[n - 1]);
        }
        for (int n = 2; n <= 7; n++) {
            chain(n);
        }
        CHECK.about("depth: NONE: .. it is not SAID");
        RainGrammar x = Check.on(GRAMMAR + row("br.rb.r"));
        CHECK.due("not said", x.depth(0), -1);
        CHECK.due("said", x.depth(1), 1);
        CHECK.due("one colour, not said", x.depth(2), -1);
        CHECK.about("depth: NONE: no such SENTENCE");
        CHECK.due("the fourth of three", x.depth(3), -1);
        for (int far : FAR) {
            CHECK.due("depth " + far, x.depth(far), -1);
        }
    }

    private static void tree() {
        CHECK.about("tree: NONE: .. no i-th one");
        RainGrammar x = Check.on(ALIKE + row("rrrrrrr"));
        for (int i = 0; i < 6; i++) {
            CHECK.due("rule " + i, x.tree(0, i), 0);
        }
        for (int i : new int[] {6, 7, 8, -1, -2, Integer.MIN_VALUE, Integer.MAX_VALUE}) {
            CHECK.due("rule " + i, x.tree(0, i), -1);
        }
        CHECK.due("of one colour", Check.on(ALIKE + row("r")).tree(0, 0), -1);
        CHECK.about("tree: NONE: .. it is not SAID");
        x = Check.on(GRAMMAR + row("br.rb.r"));
        CHECK.due("not said", x.tree(0, 0), -1);
        CHECK.due("said", x.tree(1, 0), 0);
        CHECK.due("said, no more", x.tree(1, 1), -1);
        CHECK.due("one colour, not said", x.tree(2, 0), -1);
        CHECK.about("tree: NONE: no such SENTENCE");
        CHECK.due("the fourth of three", x.tree(3, 0), -1);
        for (int far : FAR) {
            CHECK.due("tree " + far, x.tree(far, 0), -1);
        }
    }

    private static void firstTree() {
        CHECK.about("TREE: of those of that DEPTH the first row of RULES");
        RainGrammar x = Check.on("sort n;sort o;sort s;colour red as n;rule o is o o;rule o is o n;rule o is o s;"
            + "rule o is n o;rule o is n s;rule o is s o;rule o is s n;rule o is s s;rule n is o o;rule n is o n;"
            + "rule n is n n;rule s is n n;says s;" + row("rrrrrrr"));
        CHECK.due("of twelve rules the last ones", x.tree(0, 0), 11);
        for (int i = 1; i < 6; i++) {
            CHECK.due("rule " + i, x.tree(0, i), 10);
        }
        CHECK.due("the depth", x.depth(0), 3);
        CHECK.about("TREE: each ahead of those of its first piece, these ahead of those of its second one");
        x = Check.on("sort n;sort p;sort q;sort s;colour red as n;rule q is n n;rule p is n n;rule s is p q;says s;"
            + row("rrrr"));
        CHECK.due("the root", x.tree(0, 0), 2);
        CHECK.due("the first piece", x.tree(0, 1), 1);
        CHECK.due("the second piece", x.tree(0, 2), 0);
        CHECK.about("TREE: the first row (by the root, then the first piece, then the second one)");
        String pieces = "sort n;sort p;sort q;sort s;colour red as n;";
        x = Check.on(pieces + "rule s is p n;rule s is n p;rule p is n n;says s;" + row("rrr"));
        CHECK.due("ways", x.ways(0), 2);
        CHECK.due("of two roots the first", x.tree(0, 0), 0);
        x = Check.on(pieces + "rule s is n p;rule s is p n;rule p is n n;says s;" + row("rrr"));
        CHECK.due("of two roots the first, the other way round", x.tree(0, 0), 0);
        x = Check.on(pieces + "rule p is n n;rule q is n n;rule p is q n;rule p is n q;rule s is p n;says s;" + row("rrrr"));
        CHECK.due("ways", x.ways(0), 2);
        CHECK.due("the root", x.tree(0, 0), 4);
        CHECK.due("of two first pieces the first", x.tree(0, 1), 2);
        x = Check.on(pieces + "rule q is n n;rule p is n q;rule p is q n;rule s is n p;says s;" + row("rrrr"));
        CHECK.due("of two second pieces the first", x.tree(0, 1), 1);
        x = Check.on(pieces + "rule p is n n;rule q is n n;rule s is q p;rule s is p q;says s;" + row("rrrr"));
        CHECK.due("the root goes ahead of its pieces", x.tree(0, 0), 2);
        CHECK.due("then its first piece", x.tree(0, 1), 1);
        CHECK.about("TREE: a deeper one of a lower row is not the one");
        x = Check.on("sort n;sort p;sort s;colour red as n;rule s is n s;rule s is n n;rule p is n n;rule s is p p;says s;"
            + row("rrrr"));
        CHECK.due("ways", x.ways(0), 2);
        CHECK.due("the depth", x.depth(0), 2);
        CHECK.due("the root", x.tree(0, 0), 3);
    }

    private static void keys() {
        CHECK.about("KEYS: WALKERS whose umbrellas are open, each alone, by whose SHUTTING another number is SAID");
        RainGrammar x = Check.on("sort n;colour red as n;says n;" + row("r.r.r.r"));
        CHECK.due("all seven", x.keys(), 127);
        x.shut(0);
        CHECK.due("without the first: his stop is of no use", x.keys(), 124);
        for (int i = 1; i < 7; i++) {
            x.shut(i);
        }
        CHECK.due("none is open", x.keys(), 0);
        x = Check.on(GRAMMAR + row("rb") + w("u", "plain", "red", 0) + w("z", "plain", "blue", 1));
        CHECK.due("who is not read is none", x.keys(), 3);
        x = Check.on(GRAMMAR + row("rb") + "gusts 1;");
        CHECK.due("in the gust", x.keys(), 0);
        x = Check.on(GRAMMAR + row("rbb"));
        CHECK.due("more are said by one less", x.keys(), 6);
        x = Check.on(GRAMMAR + row("rbrb"));
        CHECK.due("each alone, not two together", x.keys(), 0);
        CHECK.due("open still", x.count(8), 15);
        CHECK.due("nobody", Check.on("").keys(), 0);
        x = Check.on("sort n;colour red as n;" + w("a", "plain", "red", 3) + w("b", "plain", "red", 3));
        CHECK.due("the one behind is not the first by it", x.keys(), 1);
    }

    private static void least() {
        CHECK.about("LEAST: the fewest open umbrellas to be SHUT so that there is one SENTENCE, SAID in one WAY");
        RainGrammar x = Check.on(GRAMMAR + row("rb"));
        CHECK.due("none need be", x.least(), 0);
        x = Check.on("sort n;colour red as n;says n;" + row("rrrrrrr"));
        CHECK.due("six of seven, the least set", x.least(), 63);
        x.shut(6);
        CHECK.due("five of six", x.least(), 31);
        x.shut(0);
        CHECK.due("who is shut is in no set", x.least(), 30);
        x = Check.on("sort n;colour red as n;says n;" + row("r.r.r.r"));
        CHECK.due("three sentences go, the stops may stay", x.least(), 21);
        x = Check.on(ALIKE + row("rrr"));
        CHECK.due("two ways: one goes", x.least(), 1);
        x = Check.on(GRAMMAR + row("rbb"));
        CHECK.due("of equal ones the least set", x.least(), 2);
        x = Check.on(GRAMMAR + row("bbrb"));
        CHECK.due("two at the beginning", x.least(), 3);
        x = Check.on(GRAMMAR + row("rb") + w("u", "plain", "red", 0) + "reads 1;");
        CHECK.due("of two at one place the first", x.least(), 1);
        x = Check.on(GRAMMAR + row("rb.b"));
        CHECK.due("a second sentence, of one that is not said", x.least(), 8);
        x = Check.on(GRAMMAR + row("brrrrrb"));
        CHECK.due("more than one set of five", x.least(), 31);
        CHECK.about("least: NONE: by none");
        CHECK.due("no sentence can be", Check.on(GRAMMAR + row("bbbbbbb")).least(), -1);
        CHECK.due("stops alone", Check.on(GRAMMAR + row("...")).least(), -1);
        CHECK.due("nobody", Check.on(GRAMMAR).least(), -1);
        CHECK.due("in the gust", Check.on(GRAMMAR + row("rb") + "gusts 0;").least(), -1);
        x = Check.on(GRAMMAR + row("rb"));
        x.shut(0);
        CHECK.due("nothing is opened", x.least(), -1);
        CHECK.due("nothing is shut", x.count(8), 2);
    }

    private static void later() {
        CHECK.about("LATER: where a WALKER is behind so many (0 to 60) TICKS");
        RainGrammar x = Check.on(GRAMMAR + "walker a plain red at 0 goes 1;walker b bare red at 9 goes 2;"
            + "walker c bent red at 4 goes 1 1 2 0;");
        for (int t = 0; t <= 60; t++) {
            CHECK.due("a behind " + t, x.later(0, t), Math.min(t, 9));
            CHECK.due("b behind " + t, x.later(1, t), Math.max(9 - t, 0));
        }
        int[] c = {4, 5, 6, 5, 5, 6, 7, 6, 6, 7, 8, 7, 7, 8, 9, 8, 8, 9, 9, 8, 8};
        for (int t = 0; t < c.length; t++) {
            CHECK.due("c behind " + t, x.later(2, t), c[t]);
        }
        x.tick();
        x.shut(2);
        for (int t = 1; t < c.length; t++) {
            CHECK.due("from tick 1, c behind " + (t - 1), x.later(2, t - 1), c[t]);
        }
        x.move(0, 2);
        CHECK.due("from where he was moved", x.later(0, 1), 1);
        CHECK.about("later: NONE: others");
        for (int ticks : new int[] {-1, 61, 62, Integer.MIN_VALUE, Integer.MAX_VALUE}) {
            CHECK.due("behind " + ticks, x.later(0, ticks), -1);
        }
        CHECK.due("the fourth of three", x.later(3, 0), -1);
        for (int far : FAR) {
            CHECK.due("of " + far, x.later(far, 0), -1);
            CHECK.due("of " + far + " behind 60", x.later(far, 60), -1);
        }
        CHECK.due("nothing is done", x.count(4), 1);
    }

    private static RainGrammar atHour(int hour) {
        return Check.on(GRAMMAR + row("rb") + "reads hour=" + hour + ";");
    }

    private static void when() {
        CHECK.about("WHEN: behind how many TICKS (0 to 60) a SENTENCE is SAID for the first time");
        for (int hour : new int[] {0, 1, 2, 59, 60}) {
            CHECK.due("in tick " + hour, atHour(hour).when(), hour);
        }
        CHECK.about("when: NONE: not by 60");
        for (int hour : new int[] {61, 62, 9999}) {
            CHECK.due("in tick " + hour, atHour(hour).when(), -1);
        }
        RainGrammar x = atHour(61);
        x.tick();
        CHECK.due("from tick 1", x.when(), 60);
        CHECK.due("the tick stays", x.count(4), 1);
        x = atHour(0);
        x.tick();
        CHECK.due("it was, it is no more", x.when(), -1);
    }

    private static void most() {
        CHECK.about("MOST: behind how many (0 to 60) the most are; of equal ones the first");
        for (int hour : new int[] {0, 1, 59, 60}) {
            CHECK.due("in tick " + hour, atHour(hour).most(), hour);
        }
        CHECK.due("in tick 61", atHour(61).most(), 0);
        RainGrammar x = Check.on(GRAMMAR + row("rb.rb"));
        CHECK.due("always alike", x.most(), 0);
        x = Check.on(GRAMMAR + row("rb.rb") + "reads spot<2 or 29<hour;");
        CHECK.due("one, then two", x.most(), 30);
        x = Check.on(GRAMMAR + row("rb.rb") + "reads spot<2 or hour=60;");
        CHECK.due("one, then two in tick 60", x.most(), 60);
        x = Check.on(GRAMMAR + row("rb.rb") + "reads spot<2 or hour=7 or hour=9;");
        CHECK.due("two twice", x.most(), 7);
        x.tick();
        CHECK.due("from tick 1", x.most(), 6);
        CHECK.due("the tick stays", x.count(4), 1);
    }

    private static void talk() {
        CHECK.about("TALK: how many are SAID behind each of so many (1 to 60) TICKS, together");
        RainGrammar x = Check.on(GRAMMAR + row("rb.rb"));
        for (int ticks = 1; ticks <= 60; ticks++) {
            CHECK.due("talk " + ticks, x.talk(ticks), 2 * ticks);
        }
        CHECK.due("now is not behind one", atHour(0).talk(60), 0);
        CHECK.due("behind one", atHour(1).talk(1), 1);
        CHECK.due("behind the last", atHour(60).talk(60), 1);
        CHECK.due("not yet", atHour(60).talk(59), 0);
        CHECK.due("no more", atHour(61).talk(60), 0);
        CHECK.about("talk: NONE: others");
        for (int ticks : new int[] {0, -1, 61, 62, Integer.MIN_VALUE, Integer.MAX_VALUE}) {
            CHECK.due("talk " + ticks, x.talk(ticks), -1);
        }
        CHECK.due("the tick stays", x.count(4), 0);
    }

    private static void wished(String square, String wish, int due) {
        RainGrammar x = Check.on(square);
        CHECK.due("wish " + wish, Check.wish(x, wish), 0);
        CHECK.due("wished " + wish, x.wished(), due);
    }

    private static void wished() {
        CHECK.about("wished: NONE: there is no WISH");
        RainGrammar x = Check.on(GRAMMAR);
        CHECK.due("none", x.wished(), -1);
        Check.wish(x, "red pink");
        CHECK.due("none by a fault", x.wished(), -1);
        Check.wish(x, "red blue");
        CHECK.due("one", x.wished(), 1);
        Check.square(x, GRAMMAR);
        CHECK.due("none behind a square", x.wished(), -1);
        CHECK.about("WISHED: in how many WAYS the WISH is of the SORT that says tells");
        wished(GRAMMAR, "red", 0);
        wished(GRAMMAR, "blue red", 0);
        wished(ALIKE, "red", 1);
        wished(ALIKE, Check.times("red ", 7), 132);
        wished("sort s;sort n;colour red as n;", "red", 0);
        wished("sort s;sort n;colour red as n;says n;", "red", 1);
    }

    private static void steps(String what, String square, String wish, int fewest, int... row) {
        RainGrammar x = Check.on(square);
        CHECK.due("wish " + wish, Check.wish(x, wish), 0);
        CHECK.due(what + ", how many", x.steps(-1), fewest);
        for (int i = 0; i < row.length; i++) {
            CHECK.due(what + ", walker " + i, x.steps(i), row[i]);
        }
        CHECK.due(what + ", no more", x.steps(row.length), -2);
    }

    private static void steps() {
        CHECK.about("STEPS: the fewest steps, all together, so that WALKERS .. at unlike PLACES, show it by PLACES");
        String r = "sort n;colour red as n;colour blue as n;";
        steps("one", r + w("a", "plain", "red", 9), "red", 0, 0);
        steps("from one place to two", r + w("a", "plain", "red", 4) + w("b", "plain", "red", 4), "red red", 1, 0, 1);
        steps("at the first place", r + w("a", "plain", "red", 0) + w("b", "plain", "blue", 0), "red blue", 1, 0, 1);
        steps("at the last place", r + w("a", "plain", "red", 9) + w("b", "plain", "blue", 9), "red blue", 1, 0, 1);
        steps("from one end to the other", r + w("a", "plain", "blue", 0) + w("b", "plain", "red", 9), "red blue", 10, 1, 0);
        steps("seven at 0", r + Check.times("walker w@ plain red at 0 goes 0;", 7), Check.times("red ", 7), 21,
            0, 1, 2, 3, 4, 5, 6);
        steps("seven at 9", r + Check.times("walker w@ plain red at 9 goes 0;", 7), Check.times("red ", 7), 21,
            0, 1, 2, 3, 4, 5, 6);
        steps("seven in the midst", r + Check.times("walker w@ plain red at 4 goes 0;", 7), Check.times("red ", 7), 12,
            0, 1, 2, 3, 4, 5, 6);
        steps("the far one is dearer", r + w("a", "plain", "red", 0) + w("b", "plain", "red", 8) + w("c", "plain", "blue", 9),
            "red blue", 0, 0, 2);
        steps("a way round", r + w("a", "plain", "red", 5) + w("b", "plain", "blue", 4), "red blue", 2, 0, 1);
        steps("all at their places", r + w("a", "plain", "red", 2) + w("b", "plain", "blue", 1) + w("c", "plain", "blue", 3),
            "blue red blue", 0, 1, 0, 2);
        CHECK.about("STEPS: of equal ones the first row of WALKERS (by the NAMES)");
        steps("the first of two", r + w("a", "plain", "red", 9) + w("b", "plain", "red", 0), "red", 0, 0);
        steps("the first row", r + w("a", "plain", "red", 3) + w("b", "plain", "red", 5) + w("c", "plain", "red", 7),
            "red red", 0, 0, 1);
        steps("fewer steps go ahead", r + w("a", "plain", "red", 9) + w("b", "plain", "red", 5) + w("c", "plain", "blue", 9),
            "red blue", 0, 1, 2);
        steps("either may go: the first row", r + w("a", "plain", "blue", 5) + w("b", "plain", "red", 5)
            + w("c", "plain", "red", 5) + w("d", "plain", "blue", 5), "red blue", 1, 1, 0);
    }

    private static void whoSteps() {
        String r = "sort n;colour red as n;colour blue as n;";
        CHECK.about("STEPS: WALKERS (shut ones, too, no bare ones)");
        RainGrammar x = Check.on(r + w("a", "plain", "red", 4) + w("b", "plain", "red", 7));
        Check.wish(x, "red red");
        x.shut(0);
        x.shut(1);
        CHECK.due("shut", x.steps(-1), 0);
        CHECK.due("shut, the first", x.steps(0), 0);
        steps("a bare one shows nothing", r + w("a", "bare", "red", 4), "red", -2);
        steps("another one does", r + w("a", "bare", "red", 4) + w("b", "plain", "red", 0), "red", 0, 1);
        CHECK.about("STEPS: as they are READ, were nothing else there, no gust, E no matter");
        steps("bent", r + w("a", "bent", "red", 4), "blue", 0, 0);
        steps("bent, not as told", r + w("a", "bent", "red", 4), "red", -2);
        steps("bent, the last one", r + w("a", "bent", "blue", 4), "red", 0, 0);
        steps("a lover beside another one", r + w("a", "lover", "red", 4) + w("b", "lover", "blue", 4), "red", 0, 0);
        steps("in the gust", r + w("a", "plain", "red", 4) + "gusts 4;", "red", 0, 0);
        steps("not read by the law", r + w("a", "plain", "red", 4) + "reads 0;", "red", 0, 0);
        steps("behind another one", r + w("a", "plain", "blue", 4) + w("b", "plain", "red", 4), "red", 0, 1);
        CHECK.about("steps: -2: others, no WISH, by none, no i-th one");
        x = Check.on(r + w("a", "plain", "red", 4) + w("b", "plain", "red", 4));
        for (int what : new int[] {-1, 0, 1, -2, 7, Integer.MIN_VALUE, Integer.MAX_VALUE}) {
            CHECK.due("no wish, " + what, x.steps(what), -2);
        }
        Check.wish(x, "red red");
        for (int what : new int[] {2, 3, 7, -2, -3, Integer.MIN_VALUE, Integer.MAX_VALUE}) {
            CHECK.due("what " + what, x.steps(what), -2);
        }
        Check.wish(x, "red red red");
        for (int what : new int[] {-1, 0, 1, 2, 3}) {
            CHECK.due("by none, " + what, x.steps(what), -2);
        }
        Check.wish(x, "red blue");
        CHECK.due("by none, of a colour", x.steps(-1), -2);
        CHECK.due("nobody", noWalkers().steps(-1), -2);
    }

    private static RainGrammar noWalkers() {
        RainGrammar x = Check.on(GRAMMAR);
        Check.wish(x, "red");
        return x;
    }

    private static void colours() {
        CHECK.about("COLOURS: which COLOURS are READ now (bits)");
        String six = "sort s;" + Check.times("colour c@ as s;", 6);
        RainGrammar x = Check.on(six + w("wa", "plain", "ca", 0) + w("wb", "plain", "cb", 1) + w("wc", "plain", "cc", 2)
            + w("wd", "plain", "cd", 3) + w("we", "plain", "ce", 4) + w("wf", "plain", "cf", 5) + w("wg", "bare", "ca", 6));
        CHECK.due("all six", x.colours(), 63);
        x.shut(0);
        CHECK.due("without the first: a stop is no colour", x.colours(), 62);
        x.shut(5);
        CHECK.due("without the last", x.colours(), 30);
        x = Check.on(six + Check.times("walker w@ bare cf at 0 goes 0;", 7) + "reads 1;");
        CHECK.due("stops alone", x.colours(), 0);
        x = Check.on(six + w("wa", "bent", "cf", 0) + w("wb", "bent", "ce", 1));
        CHECK.due("bent ones as they are read", x.colours(), 33);
        x = Check.on(six + w("wa", "plain", "cc", 7) + w("wb", "plain", "cd", 7) + "gusts 10 7;");
        CHECK.due("who is read alone", x.colours(), 4);
        x.tick();
        CHECK.due("nobody in the gust", x.colours(), 0);
        x = Check.on(six + Check.times("walker w@ plain cc at 0 goes 0;", 7) + "reads 1;");
        CHECK.due("seven of one", x.colours(), 4);
    }

    public static void main(String[] args) {
        order();
        gusts();
        umbrellas();
        lovers();
        bent();
        stops();
        facts();
        truth();
        wraps();
        said();
        ways();
        sorts();
        depth();
        tree();
        firstTree();
        keys();
        least();
        later();
        when();
        most();
        talk();
        wished();
        steps();
        whoSteps();
        colours();
        CHECK.end();
    }
}
