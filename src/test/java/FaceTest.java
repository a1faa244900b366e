import java.lang.reflect.Constructor;
import java.lang.reflect.Field;
import java.lang.reflect.Member;
import java.lang.reflect.Method;
import java.lang.reflect.Modifier;
import java.nio.file.Files;
import java.nio.file.Path;
import java.util.Arrays;
import java.util.TreeSet;

/** The public face as the document writes it, and what of LANGUAGE.md can be seen from outside. */
public final class FaceTest {
    private static final Checks CHECKS = new Checks();
    private static final String NO_SUCH = " IndexOutOfBoundsException";
    private static final String OUT_OF_RANGE = " IllegalArgumentException";
    private static final String FULL = " IllegalStateException";
    private static final String[] METHODS = {
        "int arc(int, int, int, int)" + NO_SUCH + OUT_OF_RANGE + FULL,
        "int piece(int, int, int)" + NO_SUCH + OUT_OF_RANGE + FULL,
        "void demand(int, int, int)" + NO_SUCH + OUT_OF_RANGE,
        "int nodes()",
        "int arcs()",
        "int capacity(int)" + NO_SUCH,
        "int price(int, int)" + NO_SUCH,
        "int most()",
        "int cost()",
        "int costByCircles()",
        "int more(int)" + NO_SUCH,
        "int flow(int)" + NO_SUCH,
        "int leastOn(int)" + NO_SUCH,
        "int mostOn(int)" + NO_SUCH,
        "int driven()",
        "int drivenOn(int)" + NO_SUCH,
        "int lastPaid()",
    };
    private static final String[] NOT_WRITTEN = {
        "import ", "package ", "->", "::", "catch", "finally", "synchronized", "assert", "static {", "Math.random",
        "System.", "Thread", "equals(", "hashCode(", "toString(", "Exact(",
    };

    public static void main(String[] args) throws Exception {
        members();
        methods();
        constructor();
        text();
        CHECKS.end("FaceTest");
    }

    private static void members() {
        int type = ConvexConduit.class.getModifiers();
        CHECKS.due("public final class", Modifier.isPublic(type) && Modifier.isFinal(type) ? 1 : 0, 1);
        TreeSet<String> faceNames = new TreeSet<>();
        for (Method method : ConvexConduit.class.getDeclaredMethods()) {
            if (Modifier.isPublic(method.getModifiers())) {
                faceNames.add(method.getName());
            }
        }
        for (Method method : ConvexConduit.class.getDeclaredMethods()) {
            boolean isPublic = Modifier.isPublic(method.getModifiers());
            boolean ownName = isPrivate(method) && !faceNames.contains(method.getName());
            CHECKS.due("public or private: " + method, isPublic || ownName ? 1 : 0, 1);
        }
        for (Field field : ConvexConduit.class.getDeclaredFields()) {
            boolean isNone = field.getName().equals("NONE") && Modifier.isPublic(field.getModifiers());
            CHECKS.due("private but NONE: " + field, isNone || isPrivate(field) ? 1 : 0, 1);
            boolean isStatic = Modifier.isStatic(field.getModifiers());
            CHECKS.due("no static state: " + field, !isStatic || Modifier.isFinal(field.getModifiers()) ? 1 : 0, 1);
        }
        for (Class<?> inside : ConvexConduit.class.getDeclaredClasses()) {
            int modifiers = inside.getModifiers();
            boolean hidden = !Modifier.isPublic(modifiers) && !Modifier.isProtected(modifiers);
            CHECKS.due("inside: " + inside, hidden && Modifier.isStatic(modifiers) ? 1 : 0, 1);
        }
    }

    private static boolean isPrivate(Member member) {
        return Modifier.isPrivate(member.getModifiers());
    }

    private static void methods() {
        TreeSet<String> got = new TreeSet<>();
        for (Method method : ConvexConduit.class.getDeclaredMethods()) {
            if (Modifier.isPublic(method.getModifiers())) {
                StringBuilder text = new StringBuilder(method.getReturnType() + " " + method.getName() + "(");
                String between = "";
                for (Class<?> parameter : method.getParameterTypes()) {
                    text.append(between).append(parameter);
                    between = ", ";
                }
                text.append(")");
                for (Class<?> thrown : method.getExceptionTypes()) {
                    text.append(" ").append(thrown.getSimpleName());
                }
                got.add(text.toString());
            }
        }
        TreeSet<String> want = new TreeSet<>(Arrays.asList(METHODS));
        CHECKS.due("methods " + got, got.equals(want) ? 1 : 0, 1);
    }

    private static void constructor() {
        Constructor<?>[] all = ConvexConduit.class.getDeclaredConstructors();
        CHECKS.due("constructors", all.length, 1);
        CHECKS.due("public", Modifier.isPublic(all[0].getModifiers()) ? 1 : 0, 1);
        CHECKS.due("of an int", Arrays.equals(all[0].getParameterTypes(), new Class<?>[] {int.class}) ? 1 : 0, 1);
    }

    private static void text() throws Exception {
        String text = Files.readString(Path.of("src/main/java/ConvexConduit.java"));
        for (String sign : NOT_WRITTEN) {
            CHECKS.due("not written: " + sign, text.contains(sign) ? 1 : 0, 0);
        }
    }
}
