import java.lang.reflect.Constructor;
import java.lang.reflect.Field;
import java.lang.reflect.Member;
import java.lang.reflect.Method;
import java.lang.reflect.Modifier;
import java.nio.file.Files;
import java.nio.file.Path;
import java.util.ArrayList;
import java.util.Arrays;
import java.util.List;
import java.util.TreeSet;

/** The public face as the document writes it, and what of LANGUAGE.md can be seen from outside. */
public final class FaceTest {
    private static final Checks CHECKS = new Checks();
    private static final String[] NOT_WRITTEN = {
        "import ", "package ", "->", "::", "catch", "finally", "synchronized", "assert", "static {", "Math.random",
        "System.", "Thread", "equals(", "hashCode(", "toString(", "Exact(",
    };

    public static void main(String[] args) throws Exception {
        String text = Files.readString(Path.of("src/main/java/ConvexConduit.java"));
        String document = Files.readString(Path.of("../shared/DOC.md"));
        List<String> face = face(document);
        members();
        methods(face);
        constants();
        constructor();
        promised(face, document);
        written(face, text);
        notWritten(text);
        CHECKS.end("FaceTest");
    }

    private static void members() {
        int type = ConvexConduit.class.getModifiers();
        CHECKS.due("public final class", Modifier.isPublic(type) && Modifier.isFinal(type) ? 1 : 0, 1);
        TreeSet<String> faceNames = new TreeSet<>();
        for (Method method : ConvexConduit.class.getDeclaredMethods()) {
            if (Modifier.isPublic(method.getModifiers())) {
                faceNames.add(method.getName());
            }
        }
        for (Method method : ConvexConduit.class.getDeclaredMethods()) {
            boolean isPublic = Modifier.isPublic(method.getModifiers());
            boolean ownName = isPrivate(method) && !faceNames.contains(method.getName());
            CHECKS.due("public or private: " + method, isPublic || ownName ? 1 : 0, 1);
        }
        for (Field field : ConvexConduit.class.getDeclaredFields()) {
            boolean isNone = field.getName().equals("NONE") && Modifier.isPublic(field.getModifiers());
            CHECKS.due("private but NONE: " + field, isNone || isPrivate(field) ? 1 : 0, 1);
            boolean isStatic = Modifier.isStatic(field.getModifiers());
            CHECKS.due("no static state: " + field, !isStatic || Modifier.isFinal(field.getModifiers()) ? 1 : 0, 1);
        }
        for (Class<?> inside : ConvexConduit.class.getDeclaredClasses()) {
            int modifiers = inside.getModifiers();
            boolean hidden = !Modifier.isPublic(modifiers) && !Modifier.isProtected(modifiers);
            CHECKS.due("inside: " + inside, hidden && Modifier.isStatic(modifiers) ? 1 : 0, 1);
        }
    }

    private static boolean isPrivate(Member member) {
        return Modifier.isPrivate(member.getModifiers());
    }

    /** The lines of the document's face: the head of the class, the constant, the constructor, the methods. */
    private static List<String> face(String document) {
        int at = document.indexOf("```java\n", document.indexOf("## The public face"));
        String code = document.substring(document.indexOf('\n', at), document.indexOf("\n}", at));
        List<String> lines = new ArrayList<>();
        for (String line : code.split("\n")) {
            if (!line.isBlank()) {
                lines.add(line.trim());
            }
        }
        CHECKS.due("lines of the face", lines.size(), 20);
        return lines;
    }

    /** By their types, names and exceptions these methods and no others are public. */
    private static void methods(List<String> face) {
        TreeSet<String> want = new TreeSet<>();
        for (String line : face.subList(3, face.size())) {
            want.add(line.replaceAll("int [a-z]+(?=[,)])", "int").replaceAll("^public |;$", ""));
        }
        TreeSet<String> got = new TreeSet<>();
        for (Method method : ConvexConduit.class.getDeclaredMethods()) {
            if (Modifier.isPublic(method.getModifiers())) {
                CHECKS.due("no static method: " + method, Modifier.isStatic(method.getModifiers()) ? 1 : 0, 0);
                got.add(method.getReturnType() + " " + method.getName() + "(" + names(method.getParameterTypes()) + ")"
                    + (method.getExceptionTypes().length == 0 ? "" : " throws " + names(method.getExceptionTypes())));
            }
        }
        CHECKS.due("17 methods", got.size(), 17);
        CHECKS.due("methods " + got + " for " + want, got.equals(want) ? 1 : 0, 1);
    }

    private static String names(Class<?>[] types) {
        StringBuilder names = new StringBuilder();
        for (Class<?> type : types) {
            names.append(names.length() == 0 ? "" : ", ").append(type.getSimpleName());
        }
        return names.toString();
    }

    private static void constants() throws Exception {
        Field none = ConvexConduit.class.getField("NONE");
        int modifiers = none.getModifiers();
        CHECKS.due("a constant", Modifier.isStatic(modifiers) && Modifier.isFinal(modifiers) ? 1 : 0, 1);
        CHECKS.due("an int", none.getType() == int.class ? 1 : 0, 1);
        CHECKS.due("NONE", none.getInt(null), -1);
    }

    private static void constructor() {
        Constructor<?>[] all = ConvexConduit.class.getDeclaredConstructors();
        CHECKS.due("constructors", all.length, 1);
        CHECKS.due("public", Modifier.isPublic(all[0].getModifiers()) ? 1 : 0, 1);
        CHECKS.due("of an int", Arrays.equals(all[0].getParameterTypes(), new Class<?>[] {int.class}) ? 1 : 0, 1);
    }

    /** Each promise's own line of code is one of the face, in the same order. */
    private static void promised(List<String> face, String document) {
        String[] promises = document.split("\n## Promise ");
        CHECKS.due("promises", promises.length - 1, face.size() - 2);
        for (int i = 1; i < promises.length && i + 1 < face.size(); i++) {
            String code = promises[i].split("`", -1)[1];
            CHECKS.due("promise " + i + ": " + code, face.get(i + 1).equals("public " + code + ";") ? 1 : 0, 1);
        }
    }

    /** Word by word, names of parameters too, and in this order. */
    private static void written(List<String> face, String text) {
        String plain = text.replaceAll("\\s+", " ");
        int at = 0;
        for (String line : face) {
            String head = line.replaceAll("[;{]$", "").trim();
            int next = plain.indexOf(line.startsWith("public static") ? line : head + " {", at);
            CHECKS.due("written: " + line, next >= at ? 1 : 0, 1);
            at = Math.max(at, next);
        }
    }

    private static void notWritten(String text) {
        for (String sign : NOT_WRITTEN) {
            CHECKS.due("not written: " + sign, text.contains(sign) ? 1 : 0, 0);
        }
    }
}
