import java.io.IOException;
import java.lang.reflect.Constructor;
import java.lang.reflect.Field;
import java.lang.reflect.Method;
import java.lang.reflect.Modifier;
import java.nio.file.Files;
import java.nio.file.Path;
import java.util.ArrayList;
import java.util.Arrays;
import java.util.List;
import java.util.TreeSet;
import java.util.regex.Matcher;
import java.util.regex.Pattern;

/**
 * The public face: every constant, the constructor and every method of the document, and no other,
 * in the document's order and under its headings.
 */
public final class FaceTest {
    private static final String[] FACE = {
        "int write(int)", "int wipe()", "int fault()", "int manor()", "int about(int)", "int food(int,int)",
        "int thing(int,int)", "int quarter()", "int put(int,int)", "int eat(int,int)", "int leave(int,int)",
        "int move(int,int)", "int sprinkle(int)", "int undo()", "int later(int,int)", "int least(int)",
        "int judge(int,long)", "int share(int,boolean)", "int say(int,int)", "int unsay()", "int lines(int)",
        "int rests(int,int,int)", "int stray(int,int,boolean)", "long seed(long)", "int years(int)", "int keep(int)",
        "int again(int)"
    };

    private static final String[][] HEADINGS = {
        {"the manor", "write", "wipe", "fault", "manor", "about", "food", "thing"},
        {"acts", "quarter", "put", "eat", "leave", "move", "sprinkle", "undo"},
        {"quarters to come", "later", "least", "judge", "share"},
        {"said", "say", "unsay", "lines"},
        {"rests, chances", "rests", "stray", "seed", "years"},
        {"slots", "keep", "again"}
    };
    private static final Path DOC = Path.of("../shared/DOC.md");
    private static final Path SOURCE = Path.of("src/main/java/AntLease.java");

    public static void main(String[] args) throws IOException {
        TreeSet<String> wrong = new TreeSet<>();
        TreeSet<String> missing = new TreeSet<>(Arrays.asList(FACE));
        TreeSet<String> names = new TreeSet<>();
        for (Method method : AntLease.class.getDeclaredMethods()) {
            String told = told(method);
            if (Modifier.isPublic(method.getModifiers()) && missing.remove(told)) {
                names.add(method.getName());
            } else if (!Modifier.isPrivate(method.getModifiers())) {
                wrong.add("not of the face: " + told);
            }
        }
        for (String told : missing) {
            wrong.add("missing: " + told);
        }
        lookAtPrivateNames(AntLease.class, names, wrong);
        for (Class<?> inside : AntLease.class.getDeclaredClasses()) {
            lookAtPrivateNames(inside, names, wrong);
            if (!Modifier.isStatic(inside.getModifiers())) {
                wrong.add("not static: " + inside.getName());
            }
        }
        lookAtFields(wrong);
        lookAtConstructors(wrong);
        lookAtHeadings(wrong);
        lookAtDocument(wrong);
        if (!Modifier.isFinal(AntLease.class.getModifiers()) || !Modifier.isPublic(AntLease.class.getModifiers())) {
            wrong.add("the class is not public and final");
        }
        if (!wrong.isEmpty()) {
            System.out.println(wrong);
            System.exit(1);
        }
    }

    private static String told(Method method) {
        StringBuilder told = new StringBuilder(method.getReturnType().getName()).append(' ').append(method.getName());
        told.append('(');
        for (Class<?> type : method.getParameterTypes()) {
            told.append(told.charAt(told.length() - 1) == '(' ? "" : ",").append(type.getName());
        }
        return told.append(')').toString();
    }

    private static void lookAtPrivateNames(Class<?> where, TreeSet<String> names, TreeSet<String> wrong) {
        for (Method method : where.getDeclaredMethods()) {
            if (names.contains(method.getName()) && !Modifier.isPublic(method.getModifiers())) {
                wrong.add("bears the name of a public one: " + method);
            }
            if (method.getParameterCount() > 7) {
                wrong.add("more than seven parameters: " + method);
            }
        }
    }

    private static void lookAtFields(TreeSet<String> wrong) {
        TreeSet<String> constants = new TreeSet<>();
        for (Field field : AntLease.class.getDeclaredFields()) {
            if (Modifier.isPublic(field.getModifiers()) && Modifier.isStatic(field.getModifiers())
                    && Modifier.isFinal(field.getModifiers()) && field.getType() == int.class) {
                constants.add(field.getName());
            } else if (!Modifier.isPrivate(field.getModifiers())) {
                wrong.add("not private: " + field);
            }
        }
        if (!constants.equals(new TreeSet<>(Arrays.asList("UNKNOWN", "BAD", "LATE", "FULL", "NONE")))) {
            wrong.add("constants: " + constants);
        }
        int[] got = {AntLease.UNKNOWN, AntLease.BAD, AntLease.LATE, AntLease.FULL, AntLease.NONE};
        if (!Arrays.equals(got, new int[] {-1, -2, -3, -4, -9})) {
            wrong.add("constants are " + Arrays.toString(got));
        }
    }

    private static void lookAtConstructors(TreeSet<String> wrong) {
        Constructor<?>[] all = AntLease.class.getDeclaredConstructors();
        if (all.length != 1 || all[0].getParameterCount() != 0 || !Modifier.isPublic(all[0].getModifiers())) {
            wrong.add("constructors: " + Arrays.toString(all));
        }
    }

    /** In the source each call stands under the heading that the document has ahead of it. */
    private static void lookAtHeadings(TreeSet<String> wrong) throws IOException {
        List<String> due = new ArrayList<>();
        for (String[] heading : HEADINGS) {
            due.addAll(Arrays.asList(heading));
        }
        Pattern line = Pattern.compile("(?m)^    (?:// ---- (.*)|public \\w+ (\\w+)\\(.*)$");
        List<String> got = new ArrayList<>();
        Matcher found = line.matcher(Files.readString(SOURCE));
        while (found.find()) {
            got.add(found.group(1) == null ? found.group(2) : found.group(1));
        }
        // behind the calls there is a heading of the class's own
        if (got.size() < due.size() || !got.subList(0, due.size()).equals(due)) {
            wrong.add("calls under their headings: " + got);
        }
    }

    /** What this test holds to is what the document says. */
    private static void lookAtDocument(TreeSet<String> wrong) throws IOException {
        if (!Files.isReadable(DOC)) {
            System.out.println(DOC + " is not here: the face is not looked up");
            return;
        }
        String doc = Files.readString(DOC);
        List<String> face = new ArrayList<>();
        Matcher method = Pattern.compile("(?m)^    public (int|long) (\\w+)\\((.*)\\);$").matcher(doc);
        while (method.find()) {
            String types = method.group(3).replaceAll(" \\w+(?=,|$)", "").replace(", ", ",");
            face.add(method.group(1) + " " + method.group(2) + "(" + types + ")");
        }
        if (!face.equals(Arrays.asList(FACE))) {
            wrong.add("the document's face is " + face);
        }
        if (!doc.contains("int UNKNOWN = -1, BAD = -2, LATE = -3, FULL = -4, NONE = -9;")) {
            wrong.add("the document has other constants");
        }
        for (String[] heading : HEADINGS) {
            String calls = String.join("`, `", Arrays.copyOfRange(heading, 1, heading.length));
            if (!doc.contains("Ahead of the calls `" + calls + "` the interface says: ---- " + heading[0] + ".")) {
                wrong.add("the document has no such heading: " + heading[0]);
            }
        }
    }
}
