/** Each sentence of the Terms and of promises 1 to 5 that names a boundary case, with a test of its own. */
public final class EdgesTellingTest {
    private static final Check CHECK = new Check("EdgesTellingTest");
    /** Sorts n, v; colours red, blue; walkers ann, bob. */
    private static final String BASE = "sort n;sort v;colour red as n;colour blue as v;"
        + "walker ann plain red at 4 goes 1;walker bob bare blue at 9 goes 0 2;";
    private static final String ONE = "sort s;colour c as s;";
    private static final long BLANKS = 0x2020202020202020L;
    /** Tokens of every make: none, signs, kept words, names of each kind, one of none, numbers, the end. */
    private static final String[] INTRUDERS = {",", "~", "A", "abcdefghi", "12345", ";", "(", ")", "<", "=", "+", "-",
        "*", "sort", "colour", "as", "rule", "is", "says", "walker", "at", "goes", "gusts", "reads", "tick", "move",
        "shut", "open", "plain", "bare", "lover", "bent", "not", "and", "or", "n", "v", "red", "blue", "ann", "bob",
        "zed", "spot", "0", "1", "2", "3", "9", "10", "11", "9999", ""};

    private static int told(RainGrammar x, char reader, String text) {
        return reader == 's' ? Check.square(x, text) : reader == 'd' ? Check.day(x, text) : Check.wish(x, text);
    }

    /** Read as a square (s), a day (d) or a wish (w), behind BASE: the fault where ^ stands. */
    private static void fault(char reader, String marked, int kind) {
        RainGrammar x = Check.on(BASE);
        CHECK.due(reader + " " + marked, told(x, reader, marked.replace("^", "")), Check.fault(marked, kind));
        CHECK.due("the tape is taken behind " + marked, x.count(13), 0);
    }

    private static void square(String marked, int kind) {
        fault('s', marked, kind);
    }

    private static void newObject() {
        CHECK.about("Promise 1: Nothing. / At first: nothing.");
        RainGrammar x = new RainGrammar();
        for (int what = 0; what <= 13; what++) {
            CHECK.due("count " + what, x.count(what), what == 5 ? 10 : 0);
        }
        for (int i = 0; i < 7; i++) {
            CHECK.due("walker", x.walker(i, 2), -2);
            CHECK.due("read", x.read(i), -1);
            CHECK.due("move", x.move(i, 1), -1);
            CHECK.due("shut", x.shut(i), false);
            CHECK.due("open", x.open(i), false);
            CHECK.due("later", x.later(i, 0), -1);
            CHECK.due("steps", x.steps(i), -2);
        }
        for (int mark = 0; mark < 4; mark++) {
            CHECK.due("mark back", x.mark(mark, true), false);
        }
        CHECK.due("undo", x.undo(), false);
        CHECK.due("judged 0", x.judged(0), -1);
        CHECK.due("judged 1", x.judged(1), -1);
        CHECK.due("judged 2", x.judged(2), 0);
        CHECK.due("said", x.said(), 0);
        CHECK.due("ways", x.ways(0), -1);
        CHECK.due("sorts", x.sorts(0, 0, 0), -1);
        CHECK.due("depth", x.depth(0), -1);
        CHECK.due("tree", x.tree(0, 0), -1);
        CHECK.due("keys", x.keys(), 0);
        CHECK.due("least", x.least(), -1);
        CHECK.due("when", x.when(), -1);
        CHECK.due("most", x.most(), 0);
        CHECK.due("talk", x.talk(60), 0);
        CHECK.due("wished", x.wished(), -1);
        CHECK.due("steps", x.steps(-1), -2);
        CHECK.due("colours", x.colours(), 0);
        CHECK.due("answer", x.answer(), 0);
        CHECK.due("who", x.who(), 0);
        CHECK.due("ask", x.ask(), -1);
        CHECK.due("chance", x.chance(10), 0);
        CHECK.due("days", x.days(9999, 99, 0), 0);
        CHECK.due("a day by a walker", Check.day(x, "shut ann;"), 2 + 16 * 5);
        CHECK.due("a wish by a colour", Check.wish(x, "red"), 2);
        CHECK.due("a day of ticks", Check.day(x, "tick;"), 0);
        CHECK.due("its line can be", x.judged(0), -1);
    }

    private static void objectsApart() {
        CHECK.about("Promise 1: Nothing. (beside another object)");
        RainGrammar x = Check.on(BASE);
        Check.feed(x, "sort");
        x.tick();
        x.mark(0, false);
        RainGrammar y = new RainGrammar();
        CHECK.due("no sort", y.count(0), 0);
        CHECK.due("no walker", y.count(3), 0);
        CHECK.due("no sign", y.count(13), 0);
        CHECK.due("no mark", y.mark(0, true), false);
        CHECK.due("the other one stays", x.count(3), 2);
    }

    private static void signs() {
        CHECK.about("The TAPE has .. signs, 10 and 32 .. 126 / feed: others .. are left out");
        for (int sign = 0; sign < 256; sign++) {
            int due = sign == 10 || sign >= 32 && sign <= 126 ? 1 : 0;
            for (int shift : new int[] {0, 24, 56}) {
                RainGrammar x = new RainGrammar();
                long row = (long) sign << shift;
                CHECK.due("sign " + sign + " in a", x.feed(row, 0, 0), due);
                CHECK.due("sign " + sign + " in b", x.feed(0, row, 0), 2 * due);
                CHECK.due("sign " + sign + " in c", x.feed(0, 0, row), 3 * due);
            }
        }
        RainGrammar x = new RainGrammar();
        x.feed(0x736f007f72807420L, 0xff6100093b0d1f0bL, 0);
        CHECK.due("what is left out parts nothing", x.count(13), 7);
        CHECK.due("sort a;", x.square(), 0);
        CHECK.due("one sort", x.count(0), 1);
    }

    private static void order() {
        CHECK.about("feed: Up to 24 signs come behind the TAPE: the bytes of a, b, c, of each the highest first");
        RainGrammar x = new RainGrammar();
        CHECK.due("24 signs", x.feed(0x736f727420613b73L, 0x6f727420623b736fL, 0x727420633b202020L), 24);
        CHECK.due("sort a;sort b;sort c;", x.square(), 0);
        CHECK.due("three sorts", x.count(0), 3);
        x.feed(0x736f72L, 0, 0);
        CHECK.due("behind what there is", x.feed(0, 0, 0x7420613bL), 7);
        CHECK.due("sort a;", x.square(), 0);
        CHECK.due("one sort", x.count(0), 1);
    }

    private static RainGrammar filled(int signs) {
        RainGrammar x = new RainGrammar();
        Check.feed(x, " ".repeat(signs));
        CHECK.due("signs", x.count(13), signs);
        return x;
    }

    private static void full() {
        CHECK.about("The TAPE has at most 1,000 signs / feed: what is beyond 1,000, are left out: how many there are");
        RainGrammar x = filled(999);
        CHECK.due("nothing more", x.feed(0, 0, 0), 999);
        CHECK.due("left out signs take no room", x.feed(0x01027fL, -1, 0x80), 999);
        CHECK.due("the thousandth", x.feed(0x3bL, 0, 0), 1000);
        CHECK.due("the next one", x.feed(0x3bL, 0, 0), 1000);
        CHECK.due("24 more", x.feed(BLANKS, BLANKS, BLANKS), 1000);
        CHECK.due("it is at 999", x.square(), 1 + 16 * 999);
        x = filled(1000);
        x.feed(0x3b3b3b3b3b3b3b3bL, 0, 0);
        CHECK.due("what is beyond is not there", x.square(), 0);
        x = filled(990);
        CHECK.due("ten of 24", x.feed(BLANKS, 0x2061626364656667L, BLANKS), 1000);
        CHECK.due("the first ten, up to a", x.square(), 1 + 16 * 999);
        CHECK.due("room again", Check.feed(x, " ".repeat(1001)), 1000);
        CHECK.due("taken", x.square(), 0);
        CHECK.due("none there", x.count(13), 0);
        x = new RainGrammar();
        CHECK.due("a thousand tokens", Check.feed(x, "(".repeat(1001)), 1000);
        CHECK.due("the first can't stand", x.square(), 1);
        CHECK.due("as many as can be", Check.feed(x, "reads " + "1+".repeat(496) + "1;"), 1000);
        CHECK.due("without a fault", x.square(), 0);
        CHECK.due("as many, without an end", Check.feed(x, "reads " + "1+".repeat(497)), 1000);
        CHECK.due("the end is at 1000", x.square(), 1 + 16 * 1000);
    }

    private static void taken() {
        CHECK.about("what reads it takes it: it is empty then");
        for (char reader : new char[] {'s', 'd', 'w'}) {
            RainGrammar x = Check.on(BASE);
            Check.feed(x, reader == 's' ? BASE : reader == 'd' ? "tick;" : "red");
            CHECK.due("no fault, " + reader, told(x, reader, ""), 0);
            CHECK.due("empty, " + reader, x.count(13), 0);
            Check.feed(x, "tick;?");
            CHECK.due("a fault, " + reader, told(x, reader, "") == 0, false);
            CHECK.due("empty by a fault, " + reader, x.count(13), 0);
            CHECK.due("the places count from 0 again, " + reader, told(x, reader, " ?"), 1 + 16);
        }
        RainGrammar x = Check.on(BASE);
        Check.feed(x, "sort");
        x.tick();
        x.undo();
        x.mark(0, false);
        x.mark(0, true);
        x.judged(2);
        CHECK.due("nothing else takes it", x.count(13), 4);
        CHECK.about("what reads it takes it (nothing of it is there behind the next text)");
        x = new RainGrammar();
        CHECK.due("a long text", Check.square(x, "gusts 1111111111;"), 1 + 16 * 6);
        CHECK.due("ends by a number", Check.square(x, "gusts 1"), 1 + 16 * 7);
        Check.square(x, "sort abcdefghijklm;");
        CHECK.due("ends by a word", Check.square(x, "sort a"), 1 + 16 * 6);
        Check.square(x, "sort a;,,,,,,,,,,,,");
        CHECK.due("ends by a sign", Check.square(x, "sort a;"), 0);
        Check.square(x, "              ?");
        CHECK.due("ends by a blank", Check.square(x, "sort a; "), 0);
    }

    private static void words() {
        CHECK.about("WORDS (letters a .. z, 8 at most) .. a longer WORD .. at its first sign, is none");
        square("sort a;", 0);
        square("sort zzzzzzzz;", 0);
        square("sort ^zzzzzzzzz;", 1);
        square("sort   ^abcdefghijklmnopqrstuvwxyz;", 1);
        square("sort azmaz;sort ^azmaz;", 3);
        square("sort ^{;", 1);
        square("sort ^`;", 1);
        square("sort z^Z;", 1);
        square("sort a^_b;", 1);
        square("^sortsorts a;", 1);
        CHECK.about("TOKENS, each as long as can be");
        square("^sorta;", 1);
        square("sort sor;sort sorts;sort sortt;", 0);
        square("sort ab;sort a;sort b;sort ba;sort abab;sort aa;", 0);
        square("sort p;sort pp;sort a;sort ap;sort ^pp;", 3);
        square("sort ba;sort aq;sort bb;sort ar;sort cz;sort dj;", 0);
        square("sort baaaaaaa;sort aqaaaaaa;sort aaaaaaba;sort aaaaaaaq;sort aaaaaaaa;sort zzzzzzzz;", 0);
        square("sort zzzzzzzy;sort zzzzzzzz;sort yzzzzzzz;sort ^yzzzzzzz;", 3);
        square("reads 1^notand 1;", 1);
    }

    private static void numbers() {
        CHECK.about("NUMBERS (1 to 4 digits; a letter may stand right behind) .. a longer .. NUMBER .. is none");
        square("gusts 0;", 0);
        square("gusts 0010;", 0);
        square("gusts ^00010;", 1);
        square("gusts 1 ^00000;", 1);
        square("gusts ^123456789012345678901234567890;", 1);
        square("reads 9999;", 0);
        square("reads ^10000;", 1);
        square("reads 0000or 1and 12or 123;", 0);
        square(ONE + "walker w plain c at0009goes0001 2;", 0);
        square("sort a^1;", 1);
        square("sort ^1a;", 1);
        square("reads 1^x;", 1);
        square("reads1;", 0);
        square("gusts1 2;", 0);
        square("gusts ^/1;", 1);
        square("gusts ^:1;", 1);
        RainGrammar x = Check.on(ONE + "walker w plain c at0009goes0002 1;gusts0007;");
        CHECK.due("0009", x.walker(0, 2), 9);
        CHECK.due("0002", x.walker(0, 4), 2);
        CHECK.due("0007", x.count(5), 7);
    }

    private static void blanks() {
        CHECK.about("blanks (10, 32) between where one likes");
        square("\n\n  sort\na\n;\n \nsort \n b;\n", 0);
        square("", 0);
        square(" ", 0);
        square("\n", 0);
        square("^so\nrt a;", 1);
        square("sort a ^b;", 1);
        square("gusts 1 0;", 0);
        square("reads 1 ^2;", 1);
        fault('d', "\ntick\n;\nmove ann\n1;", 0);
        fault('d', "\n \n", 0);
        fault('w', "\nred\n\nblue \n", 0);
        fault('w', "\n \n^", 1);
    }

    private static void otherSigns() {
        CHECK.about("the signs ( ) < = + - * ;  All else .. is none");
        for (char sign = 33; sign <= 126; sign++) {
            boolean word = sign >= 'a' && sign <= 'z' || sign >= '0' && sign <= '9';
            boolean fits = "<=+-*".indexOf(sign) >= 0;
            if (!word && sign != '^' && sign != ';') {
                square(fits ? "reads 1" + sign + "1;" : "reads 1^" + sign + "1;", 1);
            }
        }
        square("reads (1);", 0);
        CHECK.due("^", Check.square(new RainGrammar(), "reads 1^1;"), 1 + 16 * 7);
    }

    /** N, the least one, the greatest one. */
    private static boolean isNumber(String make) {
        return make.matches("N[0-9]+");
    }

    /** What is wrong with the token at a place for one of a make; 0: nothing. */
    private static int kindAt(String make, String token) {
        boolean name = token.matches("n|v|red|blue|ann|bob|zed|spot");
        boolean number = token.matches("[0-9]{1,4}");
        if (isNumber(make)) {
            int least = Integer.parseInt(make.substring(1, 2));
            int most = Integer.parseInt(make.substring(2));
            int n = number ? Integer.parseInt(token) : 0;
            return !number ? 1 : n < least || n > most ? 4 : 0;
        }
        switch (make) {
            case "NAME":
                return !name ? 1 : token.matches("zed|spot") ? 0 : 3;
            case "SORT":
                return !name ? 1 : token.matches("n|v") ? 0 : 2;
            case "COLOUR":
                return !name ? 1 : token.matches("red|blue") ? 0 : 2;
            case "WALKER":
                return !name ? 1 : token.matches("ann|bob") ? 0 : 2;
            case "KIND":
                return token.matches("plain|bare|lover|bent") ? 0 : 1;
            default:
                return token.equals(make) ? 0 : 1;
        }
    }

    private static String asGood(String make) {
        String[] makes = {"NAME", "SORT", "COLOUR", "WALKER", "KIND"};
        String[] good = {"zed", "v", "blue", "bob", "bent"};
        for (int i = 0; i < makes.length; i++) {
            if (makes[i].equals(make)) {
                return good[i];
            }
        }
        return isNumber(make) ? make.substring(1, 2) : make;
    }

    /** Every token of a line but its first word is another one in turn: the fault is there, if that can't stand. */
    private static void line(char reader, String... makes) {
        String start = reader == 's' ? BASE + "rule n is n n;" : "";
        StringBuilder ahead = new StringBuilder(start + makes[0] + " ");
        for (int i = 1; i < makes.length; i++) {
            for (String token : INTRUDERS) {
                int kind = kindAt(makes[i], token);
                // A number may follow the last one of goes and of gusts.
                boolean more = makes[i].equals(";") && isNumber(makes[i - 1]) && reader == 's';
                if (kind != 0 && !(more && token.matches("[0-9]{1,4}"))) {
                    RainGrammar x = Check.on(reader == 's' ? "" : BASE);
                    int place = ahead.length();
                    String rest = token.isEmpty() ? "" : " ;";
                    CHECK.due(ahead + "^" + token, told(x, reader, ahead + token + rest), kind + 16 * place);
                }
            }
            ahead.append(asGood(makes[i])).append(i + 1 < makes.length ? " " : "");
        }
        RainGrammar x = Check.on(reader == 's' ? "" : BASE);
        CHECK.due(ahead.toString(), told(x, reader, ahead.toString()), 0);
    }

    private static void everyToken() {
        CHECK.about("FAULTS: 1 it is none, or can't stand there; 2 a NAME of no SORT, COLOUR, WALKER told; "
            + "3 a NAME told already; 4 a NUMBER that is not as told");
        String[] firsts = {"sort", "colour", "rule", "says", "walker", "gusts", "reads"};
        for (String token : INTRUDERS) {
            if (!java.util.List.of(firsts).contains(token) && !token.isEmpty()) {
                square(BASE + "^" + token + " ;", 1);
            }
            if (!token.matches("tick|move|shut|open") && !token.isEmpty()) {
                fault('d', "tick ; ^" + token + " ;", 1);
            }
            boolean name = token.matches("n|v|ann|bob|zed|spot");
            if (!token.matches("red|blue") && !token.isEmpty()) {
                fault('w', "^" + token, name ? 2 : 1);
                fault('w', "blue red ^" + token + " red", name ? 2 : 1);
            }
        }
        line('s', "sort", "NAME", ";");
        line('s', "colour", "NAME", "as", "SORT", ";");
        line('s', "rule", "SORT", "is", "SORT", "SORT", ";");
        line('s', "says", "SORT", ";");
        line('s', "walker", "NAME", "KIND", "COLOUR", "at", "N09", "goes", "N02", ";");
        line('s', "gusts", "N010", ";");
        line('d', "tick", ";");
        line('d', "move", "WALKER", "N12", ";");
        line('d', "shut", "WALKER", ";");
        line('d', "open", "WALKER", ";");
    }

    private static void theEnd() {
        CHECK.about("the end being one at the text's length");
        square("sort^", 1);
        square("sort  ^", 1);
        square("sort a^", 1);
        square("sort a\n \n^", 1);
        square("reads 1+^", 1);
        square("reads (1^", 1);
        square("walker^", 1);
        fault('d', "move ann^", 1);
        fault('d', "shut ann ^", 1);
        fault('w', "^", 1);
        fault('w', "   ^", 1);
        square("sort a;" + " ".repeat(989) + "sort^", 1);
    }

    private static void theFirstToken() {
        CHECK.about("of the first token from the left that is wrong");
        square("sort ^, 12345 ~", 1);
        square("sort a;sort ^a;sort b;,", 3);
        square(ONE + "walker w plain ^x at 10 goes 3;", 2);
        square(ONE + "walker w plain c at ^10 goes 3;", 4);
        square(ONE + "walker w plain c at 9 goes ^3 4", 4);
        square("says ^x;says x;", 2);
        square("rule ^x is y z;", 2);
        fault('d', "move ^zed 3;", 2);
        fault('d', "move ann ^3,", 4);
        fault('w', "red ^zed ;", 2);
    }

    private static void theLeast() {
        CHECK.about("of the first token .. the least");
        square(ONE + "walker w plain c at 0 goes 0 0 0 0 0 0 ^3;", 4);
        square(ONE + "walker w plain c at 0 goes 0 0 0 0 0 0 ^9999;", 4);
        square(ONE + "walker w plain c at 0 goes 0 0 0 0 0 0 ^10000;", 1);
        square("gusts 0 0 0 0 0 0 0 0 ^11;", 4);
        square("gusts 0 0 0 0 0 0 0 0 ^99999;", 1);
        square("reads not not not not not ^;", 1);
        square("reads (((((^)))));", 1);
        square("reads (((((^n)))));", 1);
        square("reads (((((^10000)))));", 1);
        fault('d', Check.times("tick;", 40) + "^walker;", 1);
        fault('d', Check.times("tick;", 40) + "^?", 1);
        fault('w', Check.times("red ", 7) + "^zed", 2);
        fault('w', Check.times("red ", 7) + "^tick", 1);
        fault('w', Check.times("red ", 7) + "^1", 1);
    }

    private static void sorts() {
        CHECK.about("sort: 6 at most, numbered as told / 5 one too many: the words sort of a seventh");
        square(Check.times("sort s@;", 5), 0);
        square(Check.times("sort s@;", 6), 0);
        square(Check.times("sort s@;", 6) + "^sort sg;", 5);
        square(Check.times("sort s@;", 6) + "^sort sa;", 5);
        square(Check.times("sort s@;", 6) + "^sort", 5);
        square(Check.times("sort s@;", 6) + "says sf;", 0);
        for (int i = 0; i < 6; i++) {
            char name = (char) ('a' + i);
            RainGrammar x = Check.on(Check.times("sort s@;", 6) + "colour c as s" + name + ";says s" + name
                + ";walker w plain c at 0 goes 0;");
            CHECK.due("the sort " + i, x.sorts(0, 0, 0), 1 << i);
            CHECK.due("says " + i, x.said(), 1);
        }
    }

    private static void colours() {
        CHECK.about("colour: 6 at most, numbered as told; of a SORT told / the words .. colour of a seventh");
        square("sort s;" + Check.times("colour c@ as s;", 5), 0);
        square("sort s;" + Check.times("colour c@ as s;", 6), 0);
        square("sort s;" + Check.times("colour c@ as s;", 6) + "^colour cg as s;", 5);
        square("sort s;" + Check.times("colour c@ as s;", 6) + "^colour ca as s;", 5);
        square("sort s;" + Check.times("colour c@ as s;", 6) + "^colour", 5);
        square("sort s;colour c as ^t;sort t;", 2);
        for (int i = 0; i < 6; i++) {
            RainGrammar x = Check.on("sort s;" + Check.times("colour c@ as s;", 6) + "walker w plain c"
                + (char) ('a' + i) + " at 0 goes 0;");
            CHECK.due("the colour " + i, x.walker(0, 1), i);
            CHECK.due("read " + i, x.read(0), i);
            CHECK.due("bits " + i, x.colours(), 1 << i);
        }
    }

    private static String rules(int n) {
        StringBuilder b = new StringBuilder("sort a;sort b;sort c;");
        for (int i = 0; i < n; i++) {
            b.append("rule ").append((char) ('a' + i / 9)).append(" is ").append((char) ('a' + i / 3 % 3)).append(' ')
                .append((char) ('a' + i % 3)).append(";");
        }
        return b.toString();
    }

    private static void rules() {
        CHECK.about("rule: 12 at most .. three SORTS told .. each so once / the words .. rule of a thirteenth");
        square(rules(11), 0);
        square(rules(12), 0);
        square(rules(12) + "^rule c is c c;", 5);
        square(rules(12) + "^rule a is a a;", 5);
        square(rules(12) + "^rule", 5);
        square(rules(11) + "rule a is a ^a;", 3);
        square(rules(11) + "rule b is a ^b;", 3);
        square("sort a;sort b;rule a is a b;rule b is a b;rule a is b b;rule a is a a;rule a is a ^b;", 3);
        square("sort a;rule ^b is a a;sort b;", 2);
        square("sort a;rule a is ^b a;sort b;", 2);
        square("sort a;rule a is a ^b;sort b;", 2);
        square("sort a;rule a is a a;rule a is a ^x;", 2);
        RainGrammar x = Check.on(rules(12));
        CHECK.due("twelve", x.count(2), 12);
        x = Check.on(rules(11) + "rule c is b b;colour r as b;says c;walker w plain r at 0 goes 0;"
            + "walker u plain r at 1 goes 0;");
        CHECK.due("the twelfth one is of number 11", x.tree(0, 0), 11);
    }

    private static void once() {
        CHECK.about("says, gusts, reads: once each / 3 .. says, gusts, reads a second time");
        square("sort a;says a;sort b;^says b;", 3);
        square("sort a;says a;^says x;", 3);
        square("sort a;says a;^says", 3);
        square("gusts 10;sort a;^gusts 10;", 3);
        square("gusts 10;^gusts;", 3);
        square("gusts 0;^gusts 0;", 3);
        square("reads 0;sort a;^reads 0;", 3);
        square("reads 0;^reads;", 3);
        square("reads first;^reads first;", 3);
        square("sort a;reads 0;gusts 0;says a;", 0);
        square("says ^a;sort a;", 2);
    }

    private static void walkers() {
        CHECK.about("walker: 7 at most, numbered as told / walker of an eighth");
        square(ONE + Check.times("walker w@ plain c at 0 goes 0;", 6), 0);
        square(ONE + Check.times("walker w@ plain c at 0 goes 0;", 7), 0);
        square(ONE + Check.times("walker w@ plain c at 0 goes 0;", 7) + "^walker wh plain c at 0 goes 0;", 5);
        square(ONE + Check.times("walker w@ plain c at 0 goes 0;", 7) + "^walker wa", 5);
        square(ONE + Check.times("walker w@ plain c at 0 goes 0;", 7) + "^walker", 5);
        square("sort s;walker w plain ^c at 0 goes 0;colour c as s;", 2);
        RainGrammar x = Check.on(ONE + Check.times("walker w@ plain c at 0 goes 0;", 7));
        CHECK.due("seven", x.count(3), 7);
        CHECK.due("all open", x.count(8), 127);
        CHECK.due("a day by the last one", Check.day(x, "shut wg;"), 0);
        CHECK.about("at a PLACE 0 to 9");
        for (int place = 0; place < 10; place++) {
            x = Check.on(ONE + "walker w plain c at " + place + " goes 0;");
            CHECK.due("at " + place, x.walker(0, 2), place);
        }
        square(ONE + "walker w plain c at ^10 goes 0;", 4);
        square(ONE + "walker w plain c at ^9999 goes 0;", 4);
        square(ONE + "walker w plain c at ^-1 goes 0;", 1);
    }

    private static void goes() {
        CHECK.about("goes 1 to 6 steps 0 .. 1 .. 2 .. again and again / a seventh NUMBER of goes");
        square(ONE + "walker w plain c at 0 goes^;", 1);
        square(ONE + "walker w plain c at 0 goes 0 1 2 0 1 2;", 0);
        square(ONE + "walker w plain c at 0 goes 0 1 2 0 1 2 ^0;", 5);
        square(ONE + "walker w plain c at 0 goes 0 1 2 0 1 2 ^2 3;", 5);
        square(ONE + "walker w plain c at 0 goes ^3;", 4);
        square(ONE + "walker w plain c at 0 goes 0 0 0 0 0 ^3;", 4);
        square(ONE + "walker w plain c at 0 goes ^11;", 4);
        int[] six = {1, 1, 2, 0, 1, 2};
        for (int n = 1; n <= 6; n++) {
            StringBuilder b = new StringBuilder(ONE + "walker w plain c at 4 goes");
            for (int i = 0; i < n; i++) {
                b.append(' ').append(six[i]);
            }
            RainGrammar x = Check.on(b + ";");
            for (int t = 0; t < 14; t++) {
                CHECK.due(n + " steps, in tick " + t, x.walker(0, 4), six[t % n]);
                x.tick();
            }
        }
        String six7 = ONE + Check.times("walker w@ plain c at 0 goes 0 0 0 0 0 1;", 7);
        RainGrammar x = Check.on(six7);
        CHECK.due("six steps of all seven: the last one of the last", x.later(6, 6), 1);
        CHECK.due("and not ahead of it", x.later(6, 5), 0);
        CHECK.due("of the first", x.later(0, 6), 1);
        CHECK.due("of the first, ahead", x.later(0, 5), 0);
        square(six7.replace("wg plain c at 0 goes 0 0 0 0 0 1", "wg plain c at 0 goes 0 0 0 0 0 1 ^1"), 5);
    }

    private static void gusts() {
        CHECK.about("gusts: 0 to 10 .. 1 to 8, again and again (10: none) / a ninth of gusts");
        square("gusts^;", 1);
        square("gusts 0;", 0);
        square("gusts 10 9 8 7 3 2 1 0;", 0);
        square("gusts 10 9 8 7 3 2 1 0 ^10;", 5);
        square("gusts 0 0 0 0 0 0 0 0 ^0 0;", 5);
        square("gusts ^11;", 4);
        square("gusts 0 0 0 0 0 0 0 ^11;", 4);
        int[] eight = {0, 10, 9, 1, 10, 5, 5, 3};
        for (int n = 1; n <= 8; n++) {
            StringBuilder b = new StringBuilder("gusts");
            for (int i = 0; i < n; i++) {
                b.append(' ').append(eight[i]);
            }
            RainGrammar x = Check.on(b + ";");
            for (int t = 0; t < 18; t++) {
                CHECK.due(n + " gusts, in tick " + t, x.count(5), eight[t % n]);
                x.tick();
            }
        }
        RainGrammar x = Check.on("sort a;");
        CHECK.due("without gusts", x.count(5), 10);
    }

    private static void namesApart() {
        CHECK.about("A NAME is another WORD than ..; no two (SORTS, COLOURS, WALKERS) are alike / 3 a NAME told already");
        String[] kept = {"sort", "colour", "as", "rule", "is", "says", "walker", "at", "goes", "gusts", "reads", "tick",
            "move", "shut", "open", "plain", "bare", "lover", "bent", "not", "and", "or"};
        for (String word : kept) {
            square("sort ^" + word + ";", 1);
            square("sort s;colour ^" + word + " as s;", 1);
            square(ONE + "walker ^" + word + " plain c at 0 goes 0;", 1);
            square("sort " + word + "x;", 0);
            square("sort x" + word + ";", 0);
        }
        RainGrammar x = Check.on("sort spot;colour crowd as spot;walker hour plain crowd at 0 goes 0;sort first;"
            + "rule spot is first spot;says spot;reads hour+spot=crowd and first;");
        CHECK.due("facts are names, too", x.count(7), 1);
        CHECK.due("in a day", Check.day(x, "move hour 1;"), 0);
        CHECK.due("in a wish", Check.wish(x, "crowd"), 0);
        String told = "sort n;colour red as n;walker ann plain red at 0 goes 0;";
        for (String name : new String[] {"n", "red", "ann"}) {
            square(told + "sort ^" + name + ";", 3);
            square(told + "colour ^" + name + " as n;", 3);
            square(told + "walker ^" + name + " plain red at 0 goes 0;", 3);
        }
    }

    private static String parens(int n, String e) {
        return "reads " + "(".repeat(n) + e + ")".repeat(n) + ";";
    }

    private static void deepParts() {
        CHECK.about("no PART lies within 5 of not and ( ) / 5 .. not, or a PART, within 5 others");
        for (String part : new String[] {"1", "9999", "spot", "crowd", "hour", "first", "not 1", "(1)"}) {
            int free = part.startsWith("not") || part.startsWith("(") ? 3 : 4;
            for (int n = 0; n <= free; n++) {
                square(parens(n, part), 0);
                square("reads " + "not ".repeat(n) + part + ";", 0);
            }
            square(parens(5, "^" + part), 5);
            square("reads " + "not ".repeat(5) + "^" + part + ";", 5);
            square("reads (not (not (" + "^" + part + ")));", 5);
            square("reads 1 and 1<1+1*((((1+(^" + part + ")))));", 5);
        }
        square("reads not not not not not ^not 1;", 5);
        square("reads (((((^(1))))));", 5);
        square("reads ((((not ^1))));", 5);
        square("reads ((((not ^not 1))));", 5);
        square("reads ((((1))))+((((1))))*((((1))))<not not not not 1 and ((((1))));", 0);
        square("reads ((((1)+1)+1)+1);", 0);
        square("reads 1+((((1+1*1<1 and 1))));", 0);
    }

    private static void expressions() {
        CHECK.about("E: TEST { and TEST or or TEST } .. SUM < SUM .. PART: a NUMBER, a fact, not PART, ( E )");
        String[] ahead = {"reads ", "reads 1 and ", "reads 1 or ", "reads 1<", "reads 1=", "reads 1+", "reads 1-", "reads 1*",
            "reads not ", "reads (", "reads 2*(1+"};
        for (String start : ahead) {
            for (String token : INTRUDERS) {
                if (!token.matches("[0-9]{1,4}|spot|not|\\(")) {
                    square(start + "^" + token + (token.isEmpty() ? "" : " 1;"), 1);
                }
            }
        }
        for (String token : INTRUDERS) {
            if (!token.matches("[<=+*-]|and|or|;")) {
                square("reads spot ^" + token + (token.isEmpty() ? "" : " 1;"), 1);
                square("reads (1) ^" + token + (token.isEmpty() ? "" : " 1;"), 1);
            }
            if (!token.matches("[<=+*)-]|and|or")) {
                square("reads (1 ^" + token + (token.isEmpty() ? "" : " 1;"), 1);
            }
        }
        square("reads 1<2^<3;", 1);
        square("reads 1<2^=3;", 1);
        square("reads 1=2^=3;", 1);
        square("reads (1=2)=3;", 0);
        square("reads 1<2 or 2<3 and 3=3;", 0);
    }

    private static void daysOfLines() {
        CHECK.about("DAY: any number .. 40 lines at most / the first word of a 41st line of a DAY");
        fault('d', "", 0);
        fault('d', Check.times("tick;", 39), 0);
        fault('d', Check.times("tick;", 40), 0);
        fault('d', Check.times("tick;", 40) + "^tick;", 5);
        fault('d', Check.times("tick;", 40) + "^move ann 1;", 5);
        fault('d', Check.times("tick;", 40) + "^shut zed;", 5);
        fault('d', Check.times("tick;", 40) + "^open", 5);
        fault('d', Check.times("shut ann;open ann;", 20), 0);
        CHECK.about("a WALKER by a step 1 or 2");
        fault('d', "move ann 1;move bob 2;", 0);
        fault('d', "move ann ^0;", 4);
        fault('d', "move ann ^3;", 4);
        fault('d', "move ann ^12;", 4);
        RainGrammar x = Check.on(BASE);
        Check.day(x, Check.times("tick;", 40));
        CHECK.due("forty lines", x.count(9), 40);
        CHECK.due("an empty day", Check.day(x, ""), 0);
        CHECK.due("is the day", x.count(9), 0);
    }

    private static void wishes() {
        CHECK.about("WISH: 1 to 7 NAMES of COLOURS, each followed by nothing (no ; ) / an eighth NAME of a WISH");
        fault('w', "^", 1);
        fault('w', "red", 0);
        fault('w', Check.times("red ", 6), 0);
        fault('w', Check.times("red ", 7), 0);
        fault('w', Check.times("red ", 7) + "^red", 5);
        fault('w', Check.times("red ", 7) + "^blue ;", 5);
        fault('w', "red^;", 1);
        fault('w', "^;", 1);
        fault('w', "red ^; blue", 1);
        RainGrammar x = Check.on(BASE);
        CHECK.due("one", Check.wish(x, "red"), 0);
        CHECK.due("of one", x.count(10), 1);
        CHECK.due("seven", Check.wish(x, Check.times("blue ", 7)), 0);
        CHECK.due("of seven", x.count(10), 7);
        CHECK.due("none", x.wish(), 1);
        CHECK.due("of seven still", x.count(10), 7);
    }

    private static RainGrammar lived() {
        RainGrammar x = Check.on(BASE + "rule n is n v;says n;gusts 10 3;reads 1;");
        Check.day(x, "tick;shut ann;shut ann;");
        Check.wish(x, "red blue");
        x.see(5, 0, true);
        x.tick();
        x.move(0, 2);
        x.shut(1);
        x.mark(1, false);
        x.tick();
        return x;
    }

    private static void allStays() {
        String[][] wrong = {
            {"s", "sort n;,"}, {"s", "sort k;colour k as k;"}, {"s", "sort a;sort b;sort c;says d;"}, {"s", BASE + BASE},
            {"s", "gusts 1 2 3 11;"}, {"s", "reads 0 1;"}, {"s", ONE + "walker w bent c at 0 goes 1 1 1 1 1 1 1;"},
            {"s", ONE + Check.times("walker w@ lover c at 0 goes 2;", 8)}, {"d", "tick;tick;tick;tick"},
            {"d", "open bob;move bob 3;"}, {"d", Check.times("tick;", 41)}, {"w", ""}, {"w", "blue blue blue n"},
            {"w", Check.times("blue ", 8)}, {"w", "blue;"}};
        for (String[] w : wrong) {
            CHECK.about((w[0].equals("s") ? "square" : w[0].equals("d") ? "day" : "wish") + ": its FAULT (all stays then)");
            RainGrammar x = lived();
            String before = Check.state(x);
            CHECK.due("a fault in " + w[1], told(x, w[0].charAt(0), w[1]) != 0, true);
            CHECK.due("behind " + w[1], Check.state(x), before);
            CHECK.due("what can be undone stays", x.undo(), true);
            CHECK.due("the tick ahead", x.count(4), 1);
            CHECK.due("the mark stays", x.mark(1, true), true);
            CHECK.due("names stay", Check.day(x, "move ann 1;shut bob;"), 0);
        }
    }

    private static void newSquare() {
        CHECK.about("Without a FAULT a SQUARE is the SQUARE from then on: tick 0, WALKERS where told, all umbrellas open, "
            + "no DAY, no WISH, nothing SEEN, nothing can be undone, no MARK is there");
        for (String text : new String[] {"", BASE, BASE + "rule n is n v;says n;gusts 10 3;reads 1;", ONE}) {
            RainGrammar x = lived();
            for (int mark = 0; mark < 4; mark++) {
                x.mark(mark, false);
            }
            CHECK.due("told anew: " + text, Check.square(x, text), 0);
            for (int mark = 0; mark < 4; mark++) {
                CHECK.due("no mark " + mark, x.mark(mark, true), false);
            }
            CHECK.due("nothing undone", x.undo(), false);
            CHECK.due("as on a new object", Check.state(x), Check.state(Check.on(text)));
        }
    }

    /** Told three times, as a square's rows may be used again for the one behind the next. */
    private static void nothingOfOldSquares() {
        CHECK.about("a SQUARE is the SQUARE from then on");
        String rich = Check.times("sort s@;", 6) + Check.times("colour c@ as sf;", 6) + "rule sa is sf sf;rule sf is sf sf;"
            + "says sf;" + Check.times("walker w@ bent ce at 9 goes 2 2 2 2 2 2;", 7) + "gusts 1 2 3 4 5 6 7 8;reads 0;";
        String poor = "sort sa;sort sb;colour ca as sa;walker wa plain ca at 0 goes 0;walker wb plain ca at 1 goes 0;";
        RainGrammar x = Check.on(rich);
        Check.square(x, rich);
        CHECK.due("poor", Check.square(x, poor), 0);
        CHECK.due("as on a new object", Check.state(x), Check.state(Check.on(poor)));
        CHECK.due("no rule of old", x.sorts(0, 0, 1), 0);
        CHECK.due("no gust of old", x.count(5), 10);
        CHECK.due("no law of old", x.count(7), 2);
        CHECK.due("no name of old", Check.day(x, "shut wc;"), 2 + 16 * 5);
        CHECK.due("no colour of old", Check.wish(x, "cb"), 2);
        Check.square(x, rich);
        Check.wish(x, Check.times("ca ", 7));
        CHECK.due("by none of seven", x.steps(-1), -2);
        Check.square(x, poor);
        CHECK.due("a wish", Check.wish(x, "ca ca"), 0);
        CHECK.due("no walker of old: the fewest steps", x.steps(-1), 0);
        CHECK.due("by the last one", x.steps(1), 1);
        Check.square(x, poor);
        CHECK.due("as on a new object, again", Check.state(x), Check.state(Check.on(poor)));
        Check.square(x, rich + "?");
        Check.square(x, rich + "?");
        CHECK.due("behind faults", Check.square(x, poor), 0);
        CHECK.due("as on a new object, behind faults", Check.state(x), Check.state(Check.on(poor)));
        CHECK.due("the names of a square with a fault are none", Check.square(x, "says sa;"), 2 + 16 * 5);
    }

    private static void replaced() {
        CHECK.about("A DAY is the DAY, a WISH the WISH");
        RainGrammar x = lived();
        String before = Check.state(x);
        CHECK.due("a day", Check.day(x, "open ann;tick;"), 0);
        CHECK.due("its lines alone", x.count(9), 2);
        CHECK.due("the first one can't be", x.judged(0), 0);
        CHECK.due("a wish", Check.wish(x, "blue"), 0);
        CHECK.due("its names alone", x.count(10), 1);
        CHECK.due("nothing else is new", x.count(12), 4);
        CHECK.due("seen", x.count(11), 1);
        CHECK.due("the day of old", Check.day(x, "tick;shut ann;shut ann;"), 0);
        CHECK.due("the wish of old", Check.wish(x, "red blue"), 0);
        CHECK.due("all is as ahead", Check.state(x), before);
        CHECK.due("the mark", x.mark(1, true), true);
    }

    public static void main(String[] args) {
        newObject();
        objectsApart();
        signs();
        order();
        full();
        taken();
        words();
        numbers();
        blanks();
        otherSigns();
        everyToken();
        theEnd();
        theFirstToken();
        theLeast();
        sorts();
        colours();
        rules();
        once();
        walkers();
        goes();
        gusts();
        namesApart();
        deepParts();
        expressions();
        daysOfLines();
        wishes();
        allStays();
        newSquare();
        nothingOfOldSquares();
        replaced();
        CHECK.end();
    }
}
