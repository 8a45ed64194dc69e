import java.lang.reflect.Constructor;
import java.lang.reflect.Field;
import java.lang.reflect.Method;
import java.lang.reflect.Modifier;
import java.util.Set;
import java.util.TreeSet;

/** The public face, and rules 1 and 11 of LANGUAGE.md as far as a class file shows them. */
public final class FaceTest {
    private static final Check CHECK = new Check("FaceTest");
    private static final Set<String> FACE = Set.of("int type(long,int)", "int read()", "int find()", "int place()",
        "int whole(long)", "int decimal(long,int)", "int count()", "int used()", "int kind(int)", "long value(int)",
        "int scale(int)", "int write(int)", "int written(int)", "int part(int,int)", "int order(int,int)",
        "int same(int,int)", "int less(int,int)");

    public static void main(String[] args) {
        constants();
        face();
        for (Class<?> inside : TermTable.class.getDeclaredClasses()) {
            inside(inside);
        }
        CHECK.due("classes", TermTable.class.getDeclaredClasses().length + 1 <= 12 ? 1 : 0, 1);
        CHECK.end();
    }

    private static void constants() {
        CHECK.due("BAD", TermTable.BAD, -1);
        CHECK.due("NO", TermTable.NO, -2);
        CHECK.due("FULL", TermTable.FULL, -3);
        Set<String> open = new TreeSet<>();
        for (Field field : TermTable.class.getDeclaredFields()) {
            if (!Modifier.isPrivate(field.getModifiers())) {
                open.add(Modifier.toString(field.getModifiers()) + " " + field.getType() + " " + field.getName());
            }
        }
        CHECK.due("open fields", open.toString(),
            "[public static final int BAD, public static final int FULL, public static final int NO]");
    }

    private static void face() {
        CHECK.due("the class", Modifier.toString(TermTable.class.getModifiers()), "public final");
        Constructor<?>[] made = TermTable.class.getDeclaredConstructors();
        CHECK.due("constructors", made.length, 1);
        CHECK.due("the constructor", made[0].toString(), "public TermTable()");
        Set<String> open = new TreeSet<>();
        for (Method method : TermTable.class.getDeclaredMethods()) {
            if (!Modifier.isPrivate(method.getModifiers())) {
                open.add(method.toString());
            }
        }
        Set<String> due = new TreeSet<>();
        for (String line : FACE) {
            due.add("public " + line.replace(" ", " TermTable."));
        }
        CHECK.due("open methods", open.toString(), due.toString());
    }

    private static void inside(Class<?> inside) {
        CHECK.due(inside + " is static", Modifier.isStatic(inside.getModifiers()) ? 1 : 0, 1);
        int fields = 0;
        for (Field field : inside.getDeclaredFields()) {
            boolean constant = Modifier.isStatic(field.getModifiers());
            fields += constant ? 0 : 1;
            CHECK.due(field + " is final if static", !constant || Modifier.isFinal(field.getModifiers()) ? 1 : 0, 1);
        }
        CHECK.due(inside + " has few fields", fields <= 20 ? 1 : 0, 1);
        for (Method method : inside.getDeclaredMethods()) {
            boolean taken = FACE.stream().anyMatch(line -> line.contains(" " + method.getName() + "("));
            CHECK.due(method + " has a name of its own", taken ? 0 : 1, 1);
            CHECK.due(method + " has few parameters", method.getParameterCount() <= 7 ? 1 : 0, 1);
        }
    }
}
