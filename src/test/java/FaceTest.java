import java.lang.reflect.Constructor;
import java.lang.reflect.Field;
import java.lang.reflect.Method;
import java.lang.reflect.Modifier;
import java.util.Arrays;
import java.util.TreeSet;

/** The public face: every constant, the constructor and every method of the document, and no other. */
public final class FaceTest {
    private static final String[] FACE = {
        "int write(int)", "int wipe()", "int fault()", "int manor()", "int about(int)", "int food(int,int)",
        "int thing(int,int)", "int quarter()", "int put(int,int)", "int eat(int,int)", "int leave(int,int)",
        "int move(int,int)", "int sprinkle(int)", "int undo()", "int later(int,int)", "int least(int)",
        "int judge(int,long)", "int share(int,boolean)", "int say(int,int)", "int unsay()", "int lines(int)",
        "int rests(int,int,int)", "int stray(int,int,boolean)", "long seed(long)", "int years(int)", "int keep(int)",
        "int again(int)"
    };

    public static void main(String[] args) {
        TreeSet<String> wrong = new TreeSet<>();
        TreeSet<String> missing = new TreeSet<>(Arrays.asList(FACE));
        TreeSet<String> names = new TreeSet<>();
        for (Method method : AntLease.class.getDeclaredMethods()) {
            String told = told(method);
            if (Modifier.isPublic(method.getModifiers()) && missing.remove(told)) {
                names.add(method.getName());
            } else if (!Modifier.isPrivate(method.getModifiers())) {
                wrong.add("not of the face: " + told);
            }
        }
        for (String told : missing) {
            wrong.add("missing: " + told);
        }
        lookAtPrivateNames(AntLease.class, names, wrong);
        for (Class<?> inside : AntLease.class.getDeclaredClasses()) {
            lookAtPrivateNames(inside, names, wrong);
            if (!Modifier.isStatic(inside.getModifiers())) {
                wrong.add("not static: " + inside.getName());
            }
        }
        lookAtFields(wrong);
        lookAtConstructors(wrong);
        if (!Modifier.isFinal(AntLease.class.getModifiers()) || !Modifier.isPublic(AntLease.class.getModifiers())) {
            wrong.add("the class is not public and final");
        }
        if (!wrong.isEmpty()) {
            System.out.println(wrong);
            System.exit(1);
        }
    }

    private static String told(Method method) {
        StringBuilder told = new StringBuilder(method.getReturnType().getName()).append(' ').append(method.getName());
        told.append('(');
        for (Class<?> type : method.getParameterTypes()) {
            told.append(told.charAt(told.length() - 1) == '(' ? "" : ",").append(type.getName());
        }
        return told.append(')').toString();
    }

    private static void lookAtPrivateNames(Class<?> where, TreeSet<String> names, TreeSet<String> wrong) {
        for (Method method : where.getDeclaredMethods()) {
            if (names.contains(method.getName()) && !Modifier.isPublic(method.getModifiers())) {
                wrong.add("bears the name of a public one: " + method);
            }
            if (method.getParameterCount() > 7) {
                wrong.add("more than seven parameters: " + method);
            }
        }
    }

    private static void lookAtFields(TreeSet<String> wrong) {
        TreeSet<String> constants = new TreeSet<>();
        for (Field field : AntLease.class.getDeclaredFields()) {
            if (Modifier.isPublic(field.getModifiers()) && Modifier.isStatic(field.getModifiers())
                    && Modifier.isFinal(field.getModifiers()) && field.getType() == int.class) {
                constants.add(field.getName());
            } else if (!Modifier.isPrivate(field.getModifiers())) {
                wrong.add("not private: " + field);
            }
        }
        if (!constants.equals(new TreeSet<>(Arrays.asList("UNKNOWN", "BAD", "LATE", "FULL", "NONE")))) {
            wrong.add("constants: " + constants);
        }
        int[] got = {AntLease.UNKNOWN, AntLease.BAD, AntLease.LATE, AntLease.FULL, AntLease.NONE};
        if (!Arrays.equals(got, new int[] {-1, -2, -3, -4, -9})) {
            wrong.add("constants are " + Arrays.toString(got));
        }
    }

    private static void lookAtConstructors(TreeSet<String> wrong) {
        Constructor<?>[] all = AntLease.class.getDeclaredConstructors();
        if (all.length != 1 || all[0].getParameterCount() != 0 || !Modifier.isPublic(all[0].getModifiers())) {
            wrong.add("constructors: " + Arrays.toString(all));
        }
    }
}
