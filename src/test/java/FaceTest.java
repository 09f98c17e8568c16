import java.lang.reflect.Constructor;
import java.lang.reflect.Field;
import java.lang.reflect.Method;
import java.lang.reflect.Modifier;
import java.util.ArrayList;
import java.util.Arrays;
import java.util.List;
import java.util.NoSuchElementException;
import java.util.stream.Collectors;

/** The public face as the document has it, and nothing beside it that others could see. */
public final class FaceTest {
    private static final Check CHECK = new Check("FaceTest");
    private static final String[] FACE = {"int feed(long,long,long)", "int square()", "int day()", "int wish()",
        "int walker(int,int)", "int read(int)", "int tick()", "int move(int,int)", "boolean shut(int)",
        "boolean open(int)", "boolean undo()", "int judged(int)", "int said()", "int ways(int)",
        "int sorts(int,int,int)", "int depth(int)", "int tree(int,int)", "int keys()", "int least()",
        "int later(int,int)", "int when()", "int most()", "int talk(int)", "int wished()", "int steps(int)",
        "int colours()", "int code(int)", "int amiss(int)", "int blind(int)", "int answer()",
        "boolean see(int,int,boolean)", "int who()", "int ask()", "int chance(int)", "int rests(int,int,int,int)",
        "int days(int,int,int)", "boolean mark(int,boolean)", "int count(int)"};

    private static String told(Method m) {
        return m.getReturnType() + " " + m.getName()
            + Arrays.stream(m.getParameterTypes()).map(Class::getName).collect(Collectors.joining(",", "(", ")"));
    }

    private static boolean isTwice(List<String> names, Method m) {
        return Modifier.isPrivate(m.getModifiers()) && names.contains(m.getName());
    }

    private static void methods() {
        List<String> due = new ArrayList<>(List.of(FACE));
        List<String> names = due.stream().map(t -> t.substring(t.indexOf(' ') + 1, t.indexOf('('))).toList();
        for (Method m : RainGrammar.class.getDeclaredMethods()) {
            boolean hidden = Modifier.isPrivate(m.getModifiers());
            CHECK.due("seen: " + m, !hidden, due.remove(hidden ? "" : told(m)));
            CHECK.due("a private method by a public name: " + m, isTwice(names, m), false);
        }
        CHECK.due("missing: " + due, due.size(), 0);
        for (Class<?> inner : RainGrammar.class.getDeclaredClasses()) {
            CHECK.due("static: " + inner, Modifier.isStatic(inner.getModifiers()), true);
            CHECK.due("not public: " + inner, Modifier.isPublic(inner.getModifiers()), false);
            for (Method m : inner.getDeclaredMethods()) {
                CHECK.due("a private method by a public name: " + m, isTwice(names, m), false);
            }
        }
    }

    private static void rest() throws ReflectiveOperationException {
        CHECK.due("final", Modifier.isFinal(RainGrammar.class.getModifiers()), true);
        Constructor<?>[] made = RainGrammar.class.getConstructors();
        CHECK.due("one constructor", made.length, 1);
        CHECK.due("without parameters", made[0].getParameterCount(), 0);
        for (Field f : RainGrammar.class.getDeclaredFields()) {
            boolean none = f.getName().equals("NONE");
            CHECK.due("hidden: " + f, Modifier.isPrivate(f.getModifiers()), !none);
            CHECK.due("static and final: " + f, Modifier.isStatic(f.getModifiers()) && !Modifier.isFinal(f.getModifiers()), false);
        }
        CHECK.due("NONE", RainGrammar.NONE, -1);
        Class<?>[] thrown = RainGrammar.class.getMethod("rests", int.class, int.class, int.class, int.class)
            .getExceptionTypes();
        CHECK.due("rests throws", thrown.length == 1 && thrown[0] == NoSuchElementException.class, true);
    }

    public static void main(String[] args) throws ReflectiveOperationException {
        methods();
        rest();
        CHECK.end();
    }
}
