import java.io.IOException;
import java.lang.reflect.Constructor;
import java.lang.reflect.Field;
import java.lang.reflect.Member;
import java.lang.reflect.Method;
import java.lang.reflect.Modifier;
import java.nio.file.Files;
import java.nio.file.Path;
import java.util.ArrayList;
import java.util.HashSet;
import java.util.List;
import java.util.Set;
import java.util.TreeSet;

/** The face stands as in the document, to the letter, and the source keeps to what LANGUAGE.md leaves. */
public final class FaceTest {
    private static final Path SOURCE = Path.of("src/main/java/SelectoRoute.java");
    private static final Path DOCUMENT = Path.of("../shared/DOC.md");

    public static void main(String[] args) throws IOException {
        faceIsTheDocuments();
        nothingElseShows();
        nestedClassesAreStatic();
        sourceIsPlain();
        Checks.finish();
    }

    private static void faceIsTheDocuments() throws IOException {
        String document = Files.readString(DOCUMENT);
        int from = document.indexOf("public final class SelectoRoute {");
        int to = document.indexOf("\n}", from);
        Set<String> due = new TreeSet<>();
        for (String line : document.substring(from, to).split("\n")) {
            if (line.contains("(") && !line.contains("SelectoRoute(")) {
                due.add(plainSignature(line));
            }
        }
        Set<String> got = new TreeSet<>();
        for (Method method : SelectoRoute.class.getDeclaredMethods()) {
            if (Modifier.isPublic(method.getModifiers())) {
                got.add(signatureOf(method));
            }
        }
        Checks.equal("methods in the document", due.size(), 37);
        Checks.holds("the face is " + got + ", due is " + due, got.equals(due));
    }

    /** A line of the document without the names of its parameters. */
    private static String plainSignature(String line) {
        String text = line.trim().replace("public ", "").replace(";", "");
        int open = text.indexOf('(');
        int close = text.indexOf(')');
        List<String> types = new ArrayList<>();
        for (String parameter : text.substring(open + 1, close).split(",")) {
            types.add(parameter.trim().split(" ")[0]);
        }
        return text.substring(0, open) + "(" + String.join(", ", types) + ")" + text.substring(close + 1);
    }

    private static String signatureOf(Method method) {
        List<String> types = new ArrayList<>();
        for (Class<?> type : method.getParameterTypes()) {
            types.add(type.getSimpleName());
        }
        List<String> thrown = new ArrayList<>();
        for (Class<?> type : method.getExceptionTypes()) {
            thrown.add(type.getSimpleName());
        }
        String head = method.getReturnType().getSimpleName() + " " + method.getName();
        String tail = thrown.isEmpty() ? "" : " throws " + String.join(", ", thrown);
        return head + "(" + String.join(", ", types) + ")" + tail;
    }

    private static void nothingElseShows() {
        Class<?> face = SelectoRoute.class;
        Checks.holds("public and final", face.getModifiers() == (Modifier.PUBLIC | Modifier.FINAL));
        Constructor<?>[] constructors = face.getDeclaredConstructors();
        Checks.equal("constructors", constructors.length, 1);
        Checks.equal("parameters of the constructor", constructors[0].getParameterCount(), 0);
        Checks.holds("a public constructor", Modifier.isPublic(constructors[0].getModifiers()));
        for (Field field : face.getDeclaredFields()) {
            Checks.holds(field + " is private", isPrivate(field));
            Checks.holds(field + " is no state of the class", !isStatic(field) || isFinal(field));
        }
        Set<String> names = new HashSet<>();
        for (Method method : face.getMethods()) {
            names.add(method.getName());
        }
        for (Method method : face.getDeclaredMethods()) {
            if (!Modifier.isPublic(method.getModifiers())) {
                Checks.holds(method + " is private", isPrivate(method));
                Checks.holds(method + " has a name of its own", !names.contains(method.getName()));
            }
        }
    }

    private static boolean isPrivate(Member member) {
        return Modifier.isPrivate(member.getModifiers());
    }

    private static boolean isStatic(Member member) {
        return Modifier.isStatic(member.getModifiers());
    }

    private static boolean isFinal(Member member) {
        return Modifier.isFinal(member.getModifiers());
    }

    private static void nestedClassesAreStatic() {
        Class<?>[] nested = SelectoRoute.class.getDeclaredClasses();
        Checks.holds("some twelve classes at most", nested.length <= 11);
        for (Class<?> inside : nested) {
            Checks.holds(inside + " is private", Modifier.isPrivate(inside.getModifiers()));
            Checks.holds(inside + " is static", Modifier.isStatic(inside.getModifiers()));
            int fields = 0;
            for (Field field : inside.getDeclaredFields()) {
                fields += isStatic(field) ? 0 : 1;
            }
            Checks.holds(inside + " has some twenty fields at most", fields <= 20);
        }
    }

    private static void sourceIsPlain() throws IOException {
        String source = Files.readString(SOURCE);
        String[] ruledOut = {
            "->", "::", "catch", "finally", "synchronized", "assert", "instanceof", "Exact(", "package ",
            "System.", "Integer.", "Math.random", "Random", "Thread", "static {", "String.format", "printStackTrace",
        };
        for (String text : ruledOut) {
            Checks.holds("no " + text, !source.contains(text));
        }
        for (String line : source.split("\n")) {
            if (line.startsWith("import ")) {
                Checks.holds(line, line.matches("import java\\.util\\.(ArrayList|Arrays|NoSuchElementException);"));
            }
            Checks.holds("signs 1 to 127: " + line, line.chars().allMatch(sign -> sign > 0 && sign < 128));
            Checks.holds("a line of some 120 signs: " + line, line.length() <= 120);
        }
    }
}
