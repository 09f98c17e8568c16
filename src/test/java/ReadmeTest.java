import java.io.IOException;
import java.lang.reflect.InvocationTargetException;
import java.lang.reflect.Method;
import java.nio.file.Files;
import java.nio.file.Path;
import java.util.regex.Matcher;
import java.util.regex.Pattern;

/** README.md's run of calls: each line answers what stands behind it. */
public final class ReadmeTest {
    private static final Check CHECK = new Check("ReadmeTest");
    private static final Pattern TEXT = Pattern.compile("(?s)```text\n(.*?)```");
    private static final Pattern RUN = Pattern.compile("(?s)```java\n(RainGrammar x = .*?)```");
    private static final Pattern CALL = Pattern.compile("x\\.(\\w+)\\(([^)]*)\\); *// (true|false|-?\\d+)(:.*)?");
    private static final Pattern TELL = Pattern.compile("tell\\(x, (?:SQUARE|\"([^\"]*)\")\\);");
    private static final String MAKE = "RainGrammar x = new RainGrammar();";
    private static final int MOST_CALLS = 512;

    private static String found(Pattern pattern, String text) {
        Matcher m = pattern.matcher(text);
        CHECK.due("stands in README.md: " + pattern, m.find(), true);
        return m.group(1);
    }

    /** As README.md has it. */
    private static void tell(RainGrammar x, String text) {
        for (int i = 0; i < text.length(); i += 24) {
            long[] rows = new long[3];
            for (int k = 0; k < 24 && i + k < text.length(); k++) {
                rows[k / 8] |= (long) text.charAt(i + k) << (56 - 8 * (k % 8));
            }
            x.feed(rows[0], rows[1], rows[2]);
        }
    }

    private static Object argument(Class<?> type, String text) {
        if (type == boolean.class) {
            return Boolean.valueOf(text);
        }
        long value = Long.decode(text.replace("L", ""));
        return type == int.class ? (Object) (int) value : (Object) value;
    }

    private static String answer(RainGrammar x, String name, String[] texts) {
        for (Method m : RainGrammar.class.getMethods()) {
            if (m.getName().equals(name) && m.getParameterCount() == texts.length) {
                Object[] arguments = new Object[texts.length];
                for (int i = 0; i < texts.length; i++) {
                    arguments[i] = argument(m.getParameterTypes()[i], texts[i]);
                }
                try {
                    return String.valueOf(m.invoke(x, arguments));
                } catch (IllegalAccessException | InvocationTargetException e) {
                    return "throws " + e.getCause();
                }
            }
        }
        return "no such call";
    }

    private static void run(String square, String lines) {
        RainGrammar x = new RainGrammar();
        int calls = 0;
        for (String line : lines.split("\n")) {
            Matcher call = CALL.matcher(line);
            Matcher tell = TELL.matcher(line);
            if (call.matches()) {
                calls++;
                String[] texts = call.group(2).isEmpty() ? new String[0] : call.group(2).split(", ");
                CHECK.due(line, answer(x, call.group(1), texts), call.group(3));
            } else if (tell.matches()) {
                tell(x, tell.group(1) == null ? square : tell.group(1));
            } else {
                CHECK.due("a line of another make: " + line, line, MAKE);
            }
        }
        CHECK.due("calls", calls > 30 && calls < MOST_CALLS, true);
    }

    private static void names(String readme) {
        for (Method m : RainGrammar.class.getMethods()) {
            if (m.getDeclaringClass() == RainGrammar.class) {
                CHECK.due("README.md tells of " + m.getName(), readme.contains("`" + m.getName() + "`"), true);
            }
        }
    }

    public static void main(String[] args) throws IOException {
        Path source = Path.of(System.getProperty("source", "src/main/java/RainGrammar.java")).toAbsolutePath();
        String readme = Files.readString(source.resolve("../../../../README.md").normalize());
        run(found(TEXT, readme), found(RUN, readme));
        names(readme);
        CHECK.end();
    }
}
