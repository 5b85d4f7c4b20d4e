import java.io.IOException;
import java.lang.reflect.Field;
import java.lang.reflect.Method;
import java.lang.reflect.Modifier;
import java.nio.file.Files;
import java.nio.file.Path;
import java.util.ArrayList;
import java.util.List;
import java.util.Set;
import java.util.TreeSet;
import java.util.regex.Matcher;
import java.util.regex.Pattern;

/** What of ../shared/LANGUAGE.md can be seen in the source and in the class. It runs in the project's root. */
public final class LanguageTest {
    private static final String SOURCE = "src/main/java/AntLease.java";
    /** Rules 2, 4, 6, 7, 9, 13: what never stands in the code; the class needs no list, text or double. */
    private static final String[] NEVER = {
        "\\bthrow", "\\btry\\b", "\\bcatch\\b", "\\bsynchronized\\b", "\\bassert\\b", "\\bimport\\b", "\\bpackage\\b",
        "->", "::", "Exact\\s*\\(", "\\bprotected\\b", "\\bhashCode\\b", "\\btoString\\b", "\\bequals\\b",
        "\\bdouble\\b", "\\bfloat\\b", "\\bwhile\\b", "\\bdo\\b", "\\bfor\\s*\\(\\s*;", "\\bThread\\b",
        "\\bRandom\\b", "\\bstatic\\s*\\{", "\\bnative\\b", "\\bvolatile\\b", "@", "\\binstanceof\\b", "\\bnull\\b",
        "\\bObject\\b", "\\byield\\b", "[^\\x00-\\x7f]", "\\.\\.\\."
    };
    /** Rule 4: of the library only these are called. */
    private static final Set<String> LIBRARY =
            Set.of("Math.min", "Math.max", "Math.abs", "Integer.bitCount", "System.arraycopy");
    private static final Set<Class<?>> NUMBERS = Set.of(int.class, long.class, boolean.class, int[].class);
    private static final int LONGEST_METHOD = 60;
    private static final int MOST_CLASSES = 12;
    private static final int MOST_FIELDS = 20;
    private static final int MOST_PARAMETERS = 7;

    private final List<String> wrong = new ArrayList<>();

    private LanguageTest() {
    }

    public static void main(String[] args) throws IOException {
        LanguageTest test = new LanguageTest();
        String source = Files.readString(Path.of(SOURCE));
        String code = source.replaceAll("(?s)/\\*.*?\\*/", "").replaceAll("//[^\n]*", "");
        test.lookAtWords(code);
        test.lookAtLibrary(code);
        test.lookAtNew(code);
        test.lookAtLoops(code);
        test.lookAtLengths(source);
        test.lookAtClasses();
        test.wrong.forEach(System.out::println);
        System.exit(test.wrong.isEmpty() ? 0 : 1);
    }

    private void lookAtWords(String code) {
        for (String never : NEVER) {
            Matcher found = Pattern.compile(never).matcher(code);
            if (found.find()) {
                wrong.add("not in the language, or not needed: " + found.group());
            }
        }
    }

    private void lookAtLibrary(String code) {
        Set<String> own = new TreeSet<>();
        for (Class<?> inside : AntLease.class.getDeclaredClasses()) {
            own.add(inside.getSimpleName());
        }
        Matcher call = Pattern.compile("\\b([A-Z]\\w*[a-z]\\w*)\\.(\\w+)").matcher(code);
        while (call.find()) {
            if (!own.contains(call.group(1)) && !LIBRARY.contains(call.group())) {
                wrong.add("not in the library: " + call.group());
            }
        }
    }

    /** All calls of a run live in one room: objects and rows are made with their owner alone. */
    private void lookAtNew(String code) {
        Matcher line = Pattern.compile("(?m)^.*\\bnew\\b.*$").matcher(code);
        while (line.find()) {
            if (!line.group().matches("\\s+private final [\\w\\[\\]]+ \\w+ = new .*;")) {
                wrong.add("made outside a field: " + line.group().trim());
            }
        }
    }

    /** Rule 9: a counter against a bound, one step at a time. */
    private void lookAtLoops(String code) {
        Matcher head = Pattern.compile("(?m)\\bfor \\((.*)\\) \\{$").matcher(code);
        while (head.find()) {
            String name = "(\\w+)";
            String counted = "int " + name + " = [^;]+; .*\\b\\1 (<|<=|>|>=) [^;]+; \\1(\\+\\+|--)";
            if (!head.group(1).matches(counted)) {
                wrong.add("no counter against a bound: " + head.group());
            }
        }
    }

    /** A method begins with a line that ends in ") {" and ends with a brace at the same depth. */
    private void lookAtLengths(String source) {
        String[] lines = source.split("\n");
        Pattern head = Pattern.compile("( {4}| {8})(public|private|static|int|long|boolean|void)\\b.*\\) \\{");
        for (int i = 0; i < lines.length; i++) {
            Matcher matcher = head.matcher(lines[i]);
            if (matcher.matches()) {
                int end = i;
                while (end < lines.length && !lines[end].equals(matcher.group(1) + "}")) {
                    end++;
                }
                if (end - i > LONGEST_METHOD) {
                    wrong.add("too long: " + lines[i].trim());
                }
            }
        }
    }

    private void lookAtClasses() {
        List<Class<?>> all = new ArrayList<>(List.of(AntLease.class.getDeclaredClasses()));
        if (all.size() + 1 > MOST_CLASSES) {
            wrong.add("classes: " + all);
        }
        for (Class<?> inside : all) {
            if (!Modifier.isStatic(inside.getModifiers()) || inside.getDeclaredClasses().length > 0) {
                wrong.add("not a static class inside the one: " + inside);
            }
        }
        all.add(AntLease.class);
        for (Class<?> one : all) {
            lookAtFields(one, all);
            for (Method method : one.getDeclaredMethods()) {
                if (method.getParameterCount() > MOST_PARAMETERS) {
                    wrong.add("too many parameters: " + method);
                }
            }
        }
    }

    /** Rules 3, 5, 11: types, no static state, not too many. */
    private void lookAtFields(Class<?> one, List<Class<?>> own) {
        int fields = 0;
        for (Field field : one.getDeclaredFields()) {
            boolean isStatic = Modifier.isStatic(field.getModifiers());
            fields += isStatic ? 0 : 1;
            if (isStatic && !(Modifier.isFinal(field.getModifiers()) && field.getType().isPrimitive())) {
                wrong.add("static state: " + field);
            }
            if (!NUMBERS.contains(field.getType()) && !own.contains(field.getType())) {
                wrong.add("not a type of the language: " + field);
            }
        }
        if (fields > MOST_FIELDS) {
            wrong.add("too many fields: " + one);
        }
    }
}
