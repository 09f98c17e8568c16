import java.io.IOException;
import java.nio.file.Files;
import java.nio.file.Path;
import java.util.ArrayDeque;
import java.util.Deque;
import java.util.regex.Matcher;
import java.util.regex.Pattern;

/** What of LANGUAGE.md can be seen in the text of the program. */
public final class LanguageTest {
    private static final Check CHECK = new Check("LanguageTest");
    private static final String[] FORBIDDEN = {"->", "::", "\\bfinally\\b", "\\bsynchronized\\b", "\\bassert\\b",
        "\\btry\\b", "\\bcatch\\b", "\\bwhile \\(true\\)", "for \\(;;", "Exact\\(", "\\bpackage\\b", "\\bdouble\\b",
        "\\bfloat\\b", "\\bSystem\\.(?!arraycopy)", "\\bThread\\b", "\\bRandom\\b", "hashCode|toString|getMessage",
        "\\bString\\[\\]", "\\bstatic \\{", "[^\\x00-\\x7f]", "\\bprotected\\b", "\\bint\\[\\]\\[\\]", "\\bvar\\b"};
    private static final Pattern METHOD = Pattern.compile("^ +(?:[a-zA-Z]+ )*[a-zA-Z\\[\\]]+\\(([^()]*)\\)[^;=]*\\{$");
    private static final String LIBRARY = "(Integer\\.bitCount|Math\\.(min|max|abs)|Arrays\\.fill|System\\.arraycopy)";
    private static final int LONGEST = 60;
    private static final int MOST_PARAMETERS = 7;
    private static final int MOST_CLASSES = 12;
    private static final int MOST_FIELDS = 20;

    private static void words(String text) {
        String bare = text.replaceAll("(?s)/\\*.*?\\*/", "").replaceAll("//[^\n]*", "");
        for (String odd : FORBIDDEN) {
            Matcher m = Pattern.compile(odd).matcher(bare);
            CHECK.due("stands there: " + odd, m.find(), false);
        }
        Matcher imports = Pattern.compile("import ([^;]*);").matcher(bare);
        while (imports.find()) {
            String name = imports.group(1);
            boolean known = name.equals("java.util.Arrays") || name.equals("java.util.NoSuchElementException");
            CHECK.due("import " + name, known, true);
        }
        Matcher thrown = Pattern.compile("throw ([^;]*);").matcher(bare);
        while (thrown.find()) {
            CHECK.due(thrown.group(), thrown.group(1).startsWith("new NoSuchElementException(\""), true);
        }
    }

    private static void library(String text) {
        Matcher m = Pattern.compile("\\b(Integer|Long|Math|Arrays|System|String|List|ArrayList)\\.(\\w+)").matcher(text);
        while (m.find()) {
            CHECK.due("of the library: " + m.group(), m.group().matches(LIBRARY), true);
        }
        Matcher joined = Pattern.compile("\" \\+|\\+ \"").matcher(text);
        CHECK.due("texts are joined by +", joined.find(), false);
    }

    /** Who calls himself by others carries how deep he is, and is private. */
    private static void recursion(String text) {
        Matcher m = Pattern.compile("\n *([a-z ]+)\\w+\\([^)]*\\bint depth\\)").matcher(text);
        int count = 0;
        while (m.find()) {
            count++;
            CHECK.due("private: " + m.group().trim(), m.group(1).startsWith("private static"), true);
        }
        CHECK.due("five of them", count, 5);
    }

    private static void lengths(String[] lines) {
        Deque<Integer> starts = new ArrayDeque<>();
        for (int i = 0; i < lines.length; i++) {
            Matcher m = METHOD.matcher(lines[i]);
            boolean control = lines[i].matches(" +(\\} else )?(if|for|while|switch|else|do)\\b.*");
            if (m.matches() && !control) {
                int indent = lines[i].indexOf(lines[i].trim());
                int end = i;
                while (end < lines.length && !lines[end].equals(" ".repeat(indent) + "}")) {
                    end++;
                }
                CHECK.due("long: " + lines[i].trim(), end - i + 1 <= LONGEST, true);
                String params = m.group(1).trim();
                int count = params.isEmpty() ? 0 : params.split(",").length;
                CHECK.due("parameters: " + lines[i].trim(), count <= MOST_PARAMETERS, true);
                starts.add(i);
            }
        }
        CHECK.due("methods were found", starts.size() > 100, true);
    }

    private static void classes() {
        int count = 1;
        for (Class<?> inner : RainGrammar.class.getDeclaredClasses()) {
            count++;
            fields(inner);
        }
        fields(RainGrammar.class);
        CHECK.due("classes: " + count, count <= MOST_CLASSES, true);
    }

    private static void fields(Class<?> told) {
        int count = 0;
        for (java.lang.reflect.Field f : told.getDeclaredFields()) {
            count += java.lang.reflect.Modifier.isStatic(f.getModifiers()) ? 0 : 1;
        }
        CHECK.due("fields of " + told + ": " + count, count <= MOST_FIELDS, true);
    }

    public static void main(String[] args) throws IOException {
        String source = System.getProperty("source", "src/main/java/RainGrammar.java");
        String text = Files.readString(Path.of(source));
        words(text);
        library(text.replaceFirst("import java.util.Arrays;", ""));
        recursion(text);
        lengths(text.split("\n"));
        classes();
        CHECK.end();
    }
}
