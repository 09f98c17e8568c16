import com.sun.management.ThreadMXBean;
import java.lang.management.ManagementFactory;
import java.lang.reflect.Array;
import java.lang.reflect.Field;
import java.lang.reflect.Modifier;
import java.util.ArrayDeque;
import java.util.Collections;
import java.util.Deque;
import java.util.IdentityHashMap;
import java.util.NoSuchElementException;
import java.util.Set;

/** All calls of a run share one room: what an object holds is small, and its calls make nothing more. */
public final class RoomTest {
    private static final Check CHECK = new Check("RoomTest");
    private static final int MOST_OBJECTS = 100;
    private static final int MOST_ELEMENTS = 10000;
    /** What the measuring itself may take, far below one row of a call. */
    private static final long SLACK = 512;
    private static final String SQUARE = "sort n;sort v;colour red as n;colour blue as v;rule n is n n;rule v is n v;"
        + "rule n is v v;" + Check.times("walker w@ plain red at 3 goes 1 2 0;", 6)
        + "walker z bare blue at 5 goes 2 1;gusts 1 10 3;reads first or not (crowd < 3 and hour * 2 = spot);";
    private static final String DAY = Check.times("tick;move wa 1;shut wb;open wb;", 10);
    private static final long[][] TEXTS = {rows(SQUARE), rows(DAY), rows("red red blue red"), rows("sort ?")};

    private static final Deque<Object> OPEN = new ArrayDeque<>();
    private static final Set<Object> FOUND = Collections.newSetFromMap(new IdentityHashMap<>());
    private static int elements;

    private static void reach(Object o) {
        if (o != null && !(o instanceof Number) && !(o instanceof Boolean) && FOUND.add(o)) {
            OPEN.add(o);
        }
    }

    private static void reachAll(Object o) throws IllegalAccessException {
        if (o.getClass().isArray()) {
            elements += Array.getLength(o);
            for (int i = 0; !o.getClass().getComponentType().isPrimitive() && i < Array.getLength(o); i++) {
                reach(Array.get(o, i));
            }
            return;
        }
        for (Field f : o.getClass().getDeclaredFields()) {
            if (!Modifier.isStatic(f.getModifiers())) {
                f.setAccessible(true);
                elements++;
                if (!f.getType().isPrimitive()) {
                    reach(f.get(o));
                }
            }
        }
    }

    private static void held() throws IllegalAccessException {
        CHECK.about("some 600,000 objects and arrays, 7.3 million fields and elements in all");
        RainGrammar x = new RainGrammar();
        calls(x);
        reach(x);
        while (!OPEN.isEmpty()) {
            reachAll(OPEN.remove());
        }
        CHECK.due("objects: " + FOUND.size(), FOUND.size() > 20 && FOUND.size() <= MOST_OBJECTS, true);
        CHECK.due("elements: " + elements, elements > 4000 && elements <= MOST_ELEMENTS, true);
    }

    private static long[] rows(String text) {
        long[] rows = new long[(text.length() + 23) / 24 * 3];
        for (int i = 0; i < text.length(); i++) {
            rows[i / 8] |= (long) text.charAt(i) << (56 - 8 * (i % 8));
        }
        return rows;
    }

    private static void feed(RainGrammar x, int text) {
        long[] rows = TEXTS[text];
        for (int i = 0; i < rows.length; i += 3) {
            x.feed(rows[i], rows[i + 1], rows[i + 2]);
        }
    }

    /** Every call of the face but the rests that throw. */
    private static int calls(RainGrammar x) {
        feed(x, 0);
        int sum = x.square();
        feed(x, 1);
        sum += x.day();
        feed(x, 2);
        sum += x.wish();
        feed(x, 3);
        sum += x.square() > 0 ? 0 : 1;
        sum += x.mark(0, false) && x.see(4, 1, true) && x.see(9, 40, false) ? 0 : 1;
        sum += x.tick() + x.move(1, 1) + (x.shut(1) && x.open(1) ? 0 : 1);
        for (int i = -2; i < 16; i++) {
            sum += x.walker(i % 7, i % 6) + x.read(i) + x.judged(i) + x.count(i) + x.steps(i) + x.ways(i) + x.code(i);
            sum += x.sorts(i % 2, 0, i) + x.depth(i) + x.tree(0, i) + x.amiss(i) + x.blind(i) + x.chance(i);
        }
        sum += x.said() + x.keys() + x.least() + x.later(0, 60) + x.when() + x.most() + x.talk(60) + x.wished();
        sum += x.colours() + x.answer() + x.who() + x.ask() + x.days(9, 99, 0) + x.days(9, 99, 2) + x.rests(2, 5, 1, -1);
        sum += x.undo() && x.mark(0, true) ? 0 : 1;
        return sum;
    }

    private static void made() {
        CHECK.about("make rows in constructors and use them again");
        ThreadMXBean bean = (ThreadMXBean) ManagementFactory.getThreadMXBean();
        long thread = Thread.currentThread().getId();
        RainGrammar x = new RainGrammar();
        int first = calls(x);
        bean.getThreadAllocatedBytes(thread);
        long before = bean.getThreadAllocatedBytes(thread);
        int second = calls(x);
        long after = bean.getThreadAllocatedBytes(thread);
        CHECK.due("bytes made: " + (after - before), after - before <= SLACK, true);
        CHECK.due("the same calls, the same answers", second, first);
    }

    private static void thrown() {
        CHECK.about("rests: NoSuchElementException: others, none such");
        RainGrammar x = new RainGrammar();
        int count = 0;
        for (int i = 0; i < 512; i++) {
            try {
                x.rests(0, 0, 0, 4 + i);
            } catch (NoSuchElementException e) {
                count++;
            }
        }
        CHECK.due("each call throws, an object's whole life long", count, 512);
    }

    public static void main(String[] args) throws IllegalAccessException {
        held();
        made();
        thrown();
        CHECK.end();
    }
}
