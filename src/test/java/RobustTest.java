import java.lang.reflect.InvocationTargetException;
import java.lang.reflect.Method;
import java.util.ArrayList;
import java.util.Comparator;
import java.util.List;
import java.util.NoSuchElementException;
import java.util.Random;

/** Any call, by any arguments, in any state: nothing is thrown but by rests. */
public final class RobustTest {
    private static final Check CHECK = new Check("RobustTest");
    private static final Random RANDOM = new Random(39);
    private static final String[] TEXTS = {
        "sort n;sort v;sort s;colour red as n;colour blue as v;rule s is n v;rule n is n n;rule v is v n;says s;"
            + "walker a plain red at 0 goes 1;walker b bent red at 9 goes 2;walker c lover blue at 3 goes 1 2;"
            + "walker d lover red at 4 goes 0 2;walker e bare red at 5 goes 1 1 2;walker f plain blue at 6 goes 2 2 1;"
            + "walker g plain red at 7 goes 0;gusts 1 10 3;reads crowd<2 or not hour=spot;",
        "sort n;", "says n;", "colour red as n;", "tick;shut a;", "move b 2;open c;", "red blue", "red", "(", "not ", "reads ",
        "99999", "abcdefghijk", "\n", ";"};
    private static final int[] EDGES = {Integer.MIN_VALUE, Integer.MAX_VALUE, -2, -1, 0, 1, 2, 3, 4, 5, 6, 7, 8, 9, 10,
        13, 14, 15, 16, 31, 32, 33, 40, 41, 60, 61, 63, 64, 99, 100, 127, 128, 9999, 10000};

    private static Object argument(Class<?> type) {
        if (type == long.class) {
            return RANDOM.nextLong();
        }
        if (type == boolean.class) {
            return RANDOM.nextBoolean();
        }
        return RANDOM.nextInt(3) > 0 ? RANDOM.nextInt(8) : EDGES[RANDOM.nextInt(EDGES.length)];
    }

    private static String thrown(RainGrammar x, Method m) throws IllegalAccessException {
        Object[] arguments = new Object[m.getParameterCount()];
        for (int i = 0; i < arguments.length; i++) {
            arguments[i] = argument(m.getParameterTypes()[i]);
        }
        try {
            m.invoke(x, arguments);
            return "";
        } catch (InvocationTargetException e) {
            boolean told = e.getCause() instanceof NoSuchElementException && m.getName().equals("rests");
            return told ? "" : m.getName() + ": " + e.getCause();
        }
    }

    private static List<Method> face() {
        List<Method> all = new ArrayList<>();
        for (Method m : RainGrammar.class.getMethods()) {
            if (m.getDeclaringClass() == RainGrammar.class) {
                all.add(m);
            }
        }
        all.sort(Comparator.comparing(Method::getName));
        return all;
    }

    public static void main(String[] args) throws IllegalAccessException {
        List<Method> face = face();
        CHECK.due("methods", face.size(), 38);
        for (int run = 0; run < 60; run++) {
            RainGrammar x = new RainGrammar();
            for (int i = 0; i < 1500; i++) {
                if (RANDOM.nextInt(20) == 0) {
                    Check.feed(x, TEXTS[RANDOM.nextInt(4) == 0 ? 0 : RANDOM.nextInt(TEXTS.length)]);
                }
                String odd = thrown(x, face.get(RANDOM.nextInt(face.size())));
                CHECK.due(odd, odd.isEmpty(), true);
            }
        }
        CHECK.end();
    }
}
