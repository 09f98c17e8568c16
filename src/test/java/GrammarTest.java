/** Promises 15 to 18 and 25: ways, sorts of parts, the least depth, the first tree, what is wished. */
public final class GrammarTest {
    private static final Check CHECK = new Check("GrammarTest");

    private static String walkers(String colours) {
        StringBuilder b = new StringBuilder();
        for (int i = 0; i < colours.length(); i++) {
            char c = colours.charAt(i);
            String kind = c == '.' ? "bare" : "plain";
            b.append("walker w").append((char) ('a' + i)).append(' ').append(kind).append(" c")
                .append(c == '.' ? 'a' : c).append(" at ").append(i).append(" goes 0;");
        }
        return b.toString();
    }

    private static void tree(String what, RainGrammar x, int sentence, int... rules) {
        for (int i = 0; i < rules.length; i++) {
            CHECK.due(what + ", rule " + i, x.tree(sentence, i), rules[i]);
        }
        CHECK.due(what + ", no more", x.tree(sentence, rules.length), -1);
        CHECK.due(what + ", below", x.tree(sentence, -1), -1);
        CHECK.due(what + ", far", x.tree(sentence, Integer.MAX_VALUE), -1);
    }

    private static void catalan() {
        int[] ways = {1, 1, 2, 5, 14, 42, 132};
        int[] depths = {0, 1, 2, 2, 3, 3, 3};
        String one = "sort a;colour ca as a;rule a is a a;says a;";
        for (int n = 1; n <= 7; n++) {
            RainGrammar x = Check.on(one + walkers("aaaaaaa".substring(0, n)));
            CHECK.due(n + " alike, ways", x.ways(0), ways[n - 1]);
            CHECK.due(n + " alike, depth", x.depth(0), depths[n - 1]);
            tree(n + " alike", x, 0, new int[n - 1]);
            CHECK.due(n + " alike, sorts", x.sorts(0, 0, n - 1), 1);
            Check.wish(x, "ca ca ca ca ca ca ca".substring(0, 3 * n - 1));
            CHECK.due(n + " wished", x.wished(), ways[n - 1]);
        }
    }

    /** Every pair of two sorts makes either: all inner knots but the root are of either sort. */
    private static void manyWays() {
        StringBuilder b = new StringBuilder("sort a;sort b;colour ca as a;says a;");
        for (String made : new String[] {"a", "b"}) {
            for (String rest : new String[] {"a a", "a b", "b a", "b b"}) {
                b.append("rule ").append(made).append(" is ").append(rest).append(";");
            }
        }
        RainGrammar x = Check.on(b + walkers("aaaaaaa"));
        CHECK.due("132 trees, five inner knots below the root", x.ways(0), 132 * 32);
        CHECK.due("depth", x.depth(0), 3);
        CHECK.due("sorts", x.sorts(0, 0, 6), 3);
        CHECK.due("sorts of one", x.sorts(0, 6, 6), 1);
    }

    private static void sentences() {
        RainGrammar x = Check.on("sort n;sort v;sort s;colour ca as n;colour cb as v;rule s is n v;rule v is v n;says s;"
            + walkers("ab.aba."));
        CHECK.due("said", x.said(), 2);
        CHECK.due("ways 0", x.ways(0), 1);
        CHECK.due("ways 1", x.ways(1), 1);
        CHECK.due("ways 2", x.ways(2), -1);
        CHECK.due("ways -1", x.ways(-1), -1);
        CHECK.due("depth 0", x.depth(0), 1);
        CHECK.due("depth 1", x.depth(1), 2);
        CHECK.due("depth 2", x.depth(2), -1);
        tree("first", x, 0, 0);
        tree("second", x, 1, 0, 1);
        CHECK.due("no such sentence", x.tree(2, 0), -1);
        CHECK.due("sorts 1 1 2", x.sorts(1, 1, 2), 2);
        CHECK.due("sorts 1 0 1", x.sorts(1, 0, 1), 4);
        CHECK.due("sorts 1 0 2", x.sorts(1, 0, 2), 4);
        int[][] wrong = {{1, -1, 0}, {1, 0, 3}, {1, 2, 1}, {2, 0, 0}, {-1, 0, 0}, {1, 3, 3},
            {1, Integer.MIN_VALUE, 0}, {1, 0, Integer.MAX_VALUE}, {Integer.MAX_VALUE, 0, 0}};
        for (int[] w : wrong) {
            CHECK.due("sorts " + w[0] + " " + w[1] + " " + w[2], x.sorts(w[0], w[1], w[2]), -1);
        }
        x.shut(3);
        CHECK.due("not said", x.ways(1), 0);
        CHECK.due("not said, depth", x.depth(1), -1);
        CHECK.due("not said, tree", x.tree(1, 0), -1);
        CHECK.due("still a part", x.sorts(1, 0, 1), 2);
    }

    /** A rule of a lower number lies on a deeper tree: the shallow one comes first all the same. */
    private static void shallowFirst() {
        String told = "sort a;sort p;sort s;colour ca as a;rule s is a s;rule s is a a;rule s is p p;rule p is a a;says s;";
        RainGrammar x = Check.on(told + walkers("aaaa"));
        CHECK.due("ways", x.ways(0), 2);
        CHECK.due("depth", x.depth(0), 2);
        tree("shallow", x, 0, 2, 3, 3);
        x = Check.on(told + walkers("aaa"));
        CHECK.due("depth of three", x.depth(0), 2);
        tree("three", x, 0, 0, 1);
    }

    /** The root's rule counts ahead of the pieces', and the first piece's ahead of the second one's. */
    private static void firstRows() {
        String told = "sort a;sort b;sort s;colour ca as a;rule b is a a;rule a is a a;rule s is a b;rule s is b a;says s;";
        RainGrammar x = Check.on(told + walkers("aaaa"));
        CHECK.due("depth", x.depth(0), 2);
        tree("rows", x, 0, 2, 1, 0);
        x = Check.on(told + walkers("aaa"));
        tree("by pieces", x, 0, 2, 0);
        CHECK.due("ways of three", x.ways(0), 2);
        x = Check.on("sort a;sort b;sort s;colour ca as a;rule s is b a;rule s is a b;rule b is a a;rule b is b a;"
            + "rule b is a b;says s;" + walkers("aaaaa"));
        CHECK.due("depth of five", x.depth(0), 4);
        tree("five", x, 0, 0, 3, 3, 2);
    }

    private static void wishes() {
        RainGrammar x = Check.on("sort n;sort v;sort s;colour red as n;colour blue as v;rule s is n v;says s;");
        CHECK.due("no wish", x.wished(), -1);
        Check.wish(x, "blue red");
        CHECK.due("in no way", x.wished(), 0);
        Check.wish(x, "red blue");
        CHECK.due("in one", x.wished(), 1);
        x = Check.on("sort n;colour red as n;says n;");
        Check.wish(x, "red");
        CHECK.due("one colour", x.wished(), 1);
    }

    /** Without says it is the first sort told, whatever comes behind it. */
    private static void withoutSays() {
        RainGrammar x = Check.on("sort n;colour red as n;");
        Check.wish(x, "red");
        CHECK.due("without says, wished", x.wished(), 1);
        x = Check.on("sort a;sort b;sort c;sort d;sort e;sort f;colour ca as f;rule f is f f;" + walkers("aa"));
        CHECK.due("without says, of the last sort alone", x.said(), 0);
        CHECK.due("without says, ways of another sort", x.ways(0), 0);
        CHECK.due("without says, sorts", x.sorts(0, 0, 1), 32);
        CHECK.due("without says, depth of another sort", x.depth(0), -1);
        CHECK.due("without says, tree of another sort", x.tree(0, 0), -1);
        x = Check.on("sort s;sort n;sort v;colour ca as n;colour cb as v;rule v is v n;rule s is n v;" + walkers("aba"));
        CHECK.due("without says, said", x.said(), 1);
        CHECK.due("without says, ways", x.ways(0), 1);
        CHECK.due("without says, depth", x.depth(0), 2);
        tree("without says", x, 0, 1, 0);
        Check.wish(x, "ca cb");
        CHECK.due("without says, a wish by a rule", x.wished(), 1);
        Check.wish(x, "ca");
        CHECK.due("without says, a wish of another sort", x.wished(), 0);
        CHECK.due("a square with says", Check.square(x, "sort s;sort n;colour ca as n;says n;" + walkers("a")), 0);
        CHECK.due("with says", x.said(), 1);
        CHECK.due("a square without it", Check.square(x, "sort s;sort n;colour ca as n;" + walkers("a")), 0);
        CHECK.due("says of the square ahead is gone", x.said(), 0);
    }

    public static void main(String[] args) {
        withoutSays();
        catalan();
        manyWays();
        sentences();
        shallowFirst();
        firstRows();
        wishes();
        CHECK.end();
    }
}
