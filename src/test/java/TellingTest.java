/** Promises 1 to 5: a new object, the tape, squares, days and wishes with their faults. */
public final class TellingTest {
    private static final Check CHECK = new Check("TellingTest");
    private static final String BASE = "sort n;sort v;colour red as n;colour blue as v;walker wa plain red at 1 goes 1;";

    private static void square(String marked, int kind) {
        RainGrammar x = new RainGrammar();
        CHECK.due("square " + marked, Check.square(x, marked.replace("^", "")), Check.fault(marked, kind));
        CHECK.due("tape behind " + marked, x.count(13), 0);
    }

    private static void day(String marked, int kind) {
        RainGrammar x = Check.on(BASE);
        CHECK.due("day " + marked, Check.day(x, marked.replace("^", "")), Check.fault(marked, kind));
        CHECK.due("tape behind " + marked, x.count(13), 0);
    }

    private static void wish(String marked, int kind) {
        RainGrammar x = Check.on(BASE);
        CHECK.due("wish " + marked, Check.wish(x, marked.replace("^", "")), Check.fault(marked, kind));
        CHECK.due("tape behind " + marked, x.count(13), 0);
    }

    private static void newObject() {
        RainGrammar x = new RainGrammar();
        for (int what = 0; what < 14; what++) {
            CHECK.due("new, count " + what, x.count(what), what == 5 ? 10 : 0);
        }
        CHECK.due("new, undo", x.undo(), false);
        CHECK.due("new, mark back", x.mark(0, true), false);
        CHECK.due("new, mark", x.mark(0, false), true);
        CHECK.due("new, walker", x.walker(0, 0), -2);
        CHECK.due("new, empty square", x.square(), 0);
        CHECK.due("new, mark is gone behind a square", x.mark(0, true), false);
        CHECK.due("new, empty day", x.day(), 0);
    }

    private static void feeding() {
        RainGrammar x = new RainGrammar();
        CHECK.due("zeroes", x.feed(0, 0, 0), 0);
        CHECK.due("10, 32, 126", x.feed(0x0A207EL, 0, 0), 3);
        CHECK.due("9, 11, 31, 127, 128, 255", x.feed(0x090B1F7F80FFL, 0, 0), 3);
        CHECK.due("the sign bit's byte", x.feed(0xFF41414141414141L, 0x4100000000000041L, -1), 12);
        CHECK.due("count 13", x.count(13), 12);
        CHECK.due("highest first: none at 4", x.square(), 1 + 16 * 2);
        x.feed(0x736f727420613b00L, 0, 0);
        CHECK.due("bytes of a, in order", x.square(), 0);
        CHECK.due("sort a;", x.count(0), 1);
        for (int i = 0; i < 41; i++) {
            x.feed(0x2020202020202020L, 0x2020202020202020L, 0x2020202020202020L);
        }
        CHECK.due("984 blanks", x.count(13), 984);
        CHECK.due("beyond 1000", x.feed(0x2020202020202020L, 0x203b3b3b3b3b3b3bL, 0x3b3b3b3b3b3b3b3bL), 1000);
        CHECK.due("full", x.feed(-1, 0x2020202020202020L, 0), 1000);
        CHECK.due("the first ; stands at 993", x.square(), 1 + 16 * 993);
        CHECK.due("taken", x.count(13), 0);
        CHECK.due("1000 tokens", Check.feed(x, ";".repeat(1001)), 1000);
        CHECK.due("the first is wrong", x.square(), 1);
        CHECK.due("1000 parts", Check.feed(x, "reads " + "1+".repeat(497)), 1000);
        CHECK.due("the end is wrong", x.square(), 1 + 16 * 1000);
        CHECK.due("a full tape", Check.feed(x, "sort b;" + " ".repeat(986) + "sort c;"), 1000);
        CHECK.due("is read", x.square(), 0);
        CHECK.due("whole", x.count(0), 2);
    }

    private static void tokens() {
        square("", 0);
        square(" \n ", 0);
        square("\n sort \n a \n ; \n", 0);
        square("sort abcdefgh;", 0);
        square("sort ^abcdefghi;", 1);
        square("^sortabcde;", 1);
        square("^sorta;", 1);
        square("sort ^A;", 1);
        square("sort a^1;", 1);
        square("sort a^,", 1);
        square("sort ^1a;", 1);
        square("sort a;^~", 1);
        square("gusts 0001;", 0);
        square("gusts ^00001;", 1);
        square("reads 1and 1;", 0);
        square("reads 0001and 2or 3;", 0);
        square("reads 1^andor 1;", 1);
        square("reads 9999;", 0);
        square("reads ^12345;", 1);
        square("reads 1^>2;", 1);
        square("sort a   ^", 1);
        square("sort a\n\n^", 1);
    }

    private static void names() {
        String[] kept = {"sort", "colour", "as", "rule", "is", "says", "walker", "at", "goes", "gusts", "reads",
            "tick", "move", "shut", "open", "plain", "bare", "lover", "bent", "not", "and", "or"};
        for (String word : kept) {
            square("sort ^" + word + ";", 1);
            square("sort s;colour ^" + word + " as s;", 1);
            square("says ^" + word + ";", 1);
            day("shut ^" + word + ";", 1);
            wish("^" + word, 1);
        }
        for (String word : new String[] {"spot", "crowd", "hour", "first", "king", "sorts"}) {
            square("sort " + word + ";", 0);
        }
        square("sort a;sort ^a;", 3);
        square("sort a;colour ^a as a;", 3);
        square("sort a;colour b as a;sort ^b;", 3);
        square("sort a;colour b as a;colour ^b as a;", 3);
        square("sort a;colour b as a;walker ^a plain b at 1 goes 1;", 3);
        square("sort a;colour b as a;walker ^b plain b at 1 goes 1;", 3);
        square("sort a;colour b as a;walker c plain b at 1 goes 1;walker ^c plain b at 1 goes 1;", 3);
        square("sort a;colour b as a;walker c plain b at 1 goes 1;sort ^c;", 3);
    }

    private static void lines() {
        square("^;", 1);
        square("^1", 1);
        square("^tick;", 1);
        square("sort a;^a;", 1);
        square("sort^;", 1);
        square("sort a ^b;", 1);
        square("colour a ^is b;", 1);
        square("colour a as ^b;", 2);
        square("sort a;colour b as ^b;", 2);
        square("sort a;colour b as a;colour c as ^b;", 2);
        square("rule ^a is a a;", 2);
        square("sort a;rule a ^as a a;", 1);
        square("sort a;rule a is ^b a;", 2);
        square("sort a;rule a is a ^b;", 2);
        square("sort a;rule a is a^;", 1);
        square("sort a;rule a is a a ^a;", 1);
        square("sort a;rule a is a a;rule a is a ^a;", 3);
        square("sort a;sort b;rule a is a b;rule a is b a;rule b is a b;rule a is a ^b;", 3);
        square("sort a;colour b as a;rule a is ^b a;", 2);
        square("says ^a;", 2);
        square("sort a;colour b as a;says ^b;", 2);
        square("sort a;says a;^says a;", 3);
        square("sort a;says a;^says;", 3);
        square("gusts 1;^gusts 11;", 3);
        square("reads 1;^reads;", 3);
    }

    private static void walkers() {
        String s = "sort a;colour b as a;";
        square("walker a ^king b at 1 goes 1;", 1);
        square("walker a plain ^b at 1 goes 1;", 2);
        square(s + "walker w plain ^a at 1 goes 1;", 2);
        square(s + "walker w plain ^w at 1 goes 1;", 2);
        square(s + "walker w plain ^at 1 goes 1;", 1);
        square(s + "walker w plain b ^1 goes 1;", 1);
        square(s + "walker w plain b at ^10 goes 1;", 4);
        square(s + "walker w plain b at ^goes 1;", 1);
        square(s + "walker w plain b at 9 ^1;", 1);
        square(s + "walker w plain b at 9 goes^;", 1);
        square(s + "walker w plain b at 9 goes ^3;", 4);
        square(s + "walker w plain b at 9 goes 0 1 2 0 1 2;", 0);
        square(s + "walker w plain b at 9 goes 0 1 2 0 1 2 ^0;", 5);
        square(s + "walker w plain b at 9 goes 0 1 2 0 1 2 ^3;", 4);
        square(s + "walker w plain b at 9 goes 0 1 2 0 1 2 ^12345;", 1);
        square(s + "walker w plain b at 9 goes 1 ^w;", 1);
        square(s + "walker w plain b at 9 goes 1 ^", 1);
        square(s + "walker u plain b at 0 goes 1;walker v bare b at 0 goes 1;walker w lover b at 0 goes 1;"
            + "walker x bent b at 0 goes 1;", 0);
        square("gusts 0 1 2 3 4 5 9 10;", 0);
        square("gusts 0 1 2 3 4 5 9 10 ^0;", 5);
        square("gusts 0 1 2 3 4 5 9 10 ^11;", 4);
        square("gusts ^11;", 4);
        square("gusts^;", 1);
    }

    private static void tooMany() {
        square(Check.times("sort x@;", 6), 0);
        square(Check.times("sort x@;", 6) + "^sort;", 5);
        square("sort s;" + Check.times("colour x@ as s;", 6), 0);
        square("sort s;" + Check.times("colour x@ as s;", 6) + "^colour;", 5);
        String sorts = "sort s;sort t;sort u;";
        String rules = Check.times("rule @ is s s;", 3).replace("rule a", "rule s").replace("rule b", "rule t")
            .replace("rule c", "rule u");
        String twelve = rules + rules.replace("s;", "t;") + rules.replace("s;", "u;") + rules.replace("is s", "is t");
        square(sorts + twelve, 0);
        square(sorts + twelve + "^rule s is s s;", 5);
        String s = "sort a;colour b as a;";
        square(s + Check.times("walker w@ plain b at 0 goes 0;", 7), 0);
        square(s + Check.times("walker w@ plain b at 0 goes 0;", 7) + "^walker wa;", 5);
        day(Check.times("tick;", 40), 0);
        day(Check.times("tick;", 40) + "^tick;", 5);
        day(Check.times("tick;", 40) + "^move x;", 5);
        day(Check.times("tick;", 40) + "^rest;", 1);
        day(Check.times("tick;", 40) + "^;", 1);
        wish(Check.times("red ", 7), 0);
        wish(Check.times("red ", 7) + "^red", 5);
        wish(Check.times("red ", 7) + "^pink", 2);
        wish(Check.times("red ", 7) + "^;", 1);
    }

    private static void laws() {
        square("reads^;", 1);
        square("reads 1 ^", 1);
        square("reads spot+crowd*hour-first<3 and not 0 or 2=(1);", 0);
        square("reads ^is;", 1);
        square("reads ^spots;", 1);
        square("reads ^-1;", 1);
        square("reads 1 ^1;", 1);
        square("reads 1<2^<3;", 1);
        square("reads 1=2^<3;", 1);
        square("reads 1<2 and 2<3;", 0);
        square("reads (1<2)<3;", 0);
        square("reads (1^;", 1);
        square("reads (^);", 1);
        square("reads 1^);", 1);
        square("reads 1*^*2;", 1);
        square("reads 1+not 2;", 0);
        square("reads not not not not 1;", 0);
        square("reads not not not not not ^1;", 5);
        square("reads not not not not not ^not 1;", 5);
        square("reads not not not not not ^(1);", 5);
        square("reads not not not not not ^);", 1);
        square("reads not not not not not ^and;", 1);
        square("reads ((((1))));", 0);
        square("reads (((((^spot)))));", 5);
        square("reads (not(not(^not 1)));", 5);
        square("reads (not(not 1+not 1))*(((1)));", 0);
        square("reads not not(1) and ((((2))))+((((^x))));", 1);
    }

    private static void daysAndWishes() {
        day("", 0);
        day("tick;move wa 1;move wa 2;shut wa;open wa;", 0);
        day("tick^", 1);
        day("tick ^1;", 1);
        day("move ^red 1;", 2);
        day("move ^x 1;", 2);
        day("move wa ^0;", 4);
        day("move wa ^3;", 4);
        day("move wa^;", 1);
        day("move wa 1 ^1;", 1);
        day("shut^;", 1);
        day("open ^n;", 2);
        day("^sort a;", 1);
        day("shut wa ^1;", 1);
        day("shut ^1;", 1);
        wish("red", 0);
        wish("red blue red", 0);
        wish("^", 1);
        wish("  ^", 1);
        wish("red^;", 1);
        wish("red ^n", 2);
        wish("^wa", 2);
        wish("red ^1", 1);
        wish("red ^tick", 1);
    }

    private static void whatStays() {
        RainGrammar x = Check.on(BASE);
        Check.day(x, "tick;tick;");
        Check.wish(x, "red blue");
        x.see(1, 1, true);
        x.mark(2, false);
        x.tick();
        CHECK.due("a fault in a square", Check.square(x, "sort a;sort a;"), 3 + 16 * 12);
        CHECK.due("a fault in a day", Check.day(x, "tick;tick;tick;shut;"), 1 + 16 * 19);
        CHECK.due("a fault in a wish", Check.wish(x, "blue blue blue n"), 2 + 16 * 15);
        int[] due = {2, 2, 0, 1, 1, 10, 1, 1, 1, 2, 2, 1, 1, 0};
        for (int what = 0; what < due.length; what++) {
            CHECK.due("all stays, count " + what, x.count(what), due[what]);
        }
        CHECK.due("the mark stays", x.mark(2, true), true);
        CHECK.due("the wish is as before", x.steps(0), -2);
        Check.wish(x, "red");
        CHECK.due("a day by the square's walkers", Check.day(x, "open wa;"), 0);
        CHECK.due("the new day", x.count(9), 1);
        CHECK.due("the new wish", x.count(10), 1);
        x.tick();
        CHECK.due("a new square", Check.square(x, "sort k;"), 0);
        int[] clean = {1, 0, 0, 0, 0, 10, 0, 0, 0, 0, 0, 0, 0, 0};
        for (int what = 0; what < clean.length; what++) {
            CHECK.due("new square, count " + what, x.count(what), clean[what]);
        }
        CHECK.due("no mark", x.mark(2, true), false);
        CHECK.due("nothing undone", x.undo(), false);
    }

    public static void main(String[] args) {
        newObject();
        feeding();
        tokens();
        names();
        lines();
        walkers();
        tooMany();
        laws();
        daysAndWishes();
        whatStays();
        CHECK.end();
    }
}
