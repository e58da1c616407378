import java.io.IOException;
import java.lang.reflect.Constructor;
import java.lang.reflect.Field;
import java.lang.reflect.Method;
import java.lang.reflect.Modifier;
import java.nio.file.Files;
import java.nio.file.Path;
import java.util.Arrays;
import java.util.Set;
import java.util.TreeSet;
import java.util.regex.Matcher;
import java.util.regex.Pattern;

/** The class shows the document's face and nothing else, and keeps to what LANGUAGE.md says of members. */
public final class FaceTest {
    private static final String[] FACE = {
        "type(int, int)", "face(int, int)", "field(int)", "thread()", "clear()",
        "action(int, int, int, int, boolean)", "begin()", "turn(int)", "go(int)", "steps()",
        "state(int)", "in(int)", "value(int)", "end(int)", "waits(int)", "start(int, int)",
        "log(int, int)", "list(int, int)", "through(int)", "needs(int, int)", "search()",
        "points()", "stuck()", "outcome(int, int)", "witness(int, int)", "holds()"};

    private static final Path DOCUMENT = Path.of("../shared/DOC.md");
    private static final Pattern DOCUMENT_LINE = Pattern.compile("(?m)^    public int (\\w+\\(.*\\));$");

    private static int wrong = 0;

    private static void check(boolean good, String what) {
        if (!good) {
            wrong++;
            System.out.println("not so: " + what);
        }
    }

    public static void main(String[] args) throws IOException {
        Class<?> c = TypeStarts.class;
        check(Modifier.isPublic(c.getModifiers()) && Modifier.isFinal(c.getModifiers()), "public and final");
        check(c.getDeclaredConstructors().length == 1, "one constructor");
        for (Constructor<?> k : c.getDeclaredConstructors()) {
            check(Modifier.isPublic(k.getModifiers()) && k.getParameterCount() == 0, "its constructor");
        }
        checkMethods(c);
        checkFields(c);
        checkConstants();
        if (Files.exists(DOCUMENT)) checkDocument(Files.readString(DOCUMENT));
        else System.out.println("no document at " + DOCUMENT + ": the face was not compared with it");
        int classes = 1;
        for (Class<?> inner : c.getDeclaredClasses()) {
            classes++;
            int m = inner.getModifiers();
            check(Modifier.isStatic(m) && !Modifier.isPublic(m) && !Modifier.isProtected(m), inner + " is static");
            checkFields(inner);
            checkInnerNames(inner);
        }
        check(classes <= 12, "at most twelve classes");
        System.out.println(wrong == 0 ? "the face is as it should be" : wrong + " things are not so");
        if (wrong != 0) System.exit(1);
    }

    private static void checkMethods(Class<?> c) {
        Set<String> shown = new TreeSet<>();
        Set<String> names = new TreeSet<>();
        for (String line : FACE) names.add(line.substring(0, line.indexOf('(')));
        for (Method m : c.getDeclaredMethods()) {
            if (m.isSynthetic()) continue;
            if (Modifier.isPrivate(m.getModifiers())) {
                check(!names.contains(m.getName()), "a private method is named " + m.getName());
                continue;
            }
            check(Modifier.isPublic(m.getModifiers()) && !Modifier.isStatic(m.getModifiers()), m + " is of the face");
            check(m.getReturnType() == int.class, m + " answers an int");
            shown.add(line(m));
        }
        check(shown.equals(new TreeSet<>(Arrays.asList(FACE))), "the face is " + shown);
    }

    private static String line(Method m) {
        StringBuilder b = new StringBuilder(m.getName()).append('(');
        for (Class<?> p : m.getParameterTypes()) {
            if (b.charAt(b.length() - 1) != '(') b.append(", ");
            b.append(p.getName());
        }
        return b.append(')').toString();
    }

    private static void checkInnerNames(Class<?> inner) {
        for (Method m : inner.getDeclaredMethods()) {
            for (String line : FACE) {
                check(!line.startsWith(m.getName() + "("), inner + " has a method named as one of the face: " + m);
            }
        }
    }

    private static void checkFields(Class<?> c) {
        int own = 0;
        for (Field f : c.getDeclaredFields()) {
            if (f.isSynthetic()) continue;
            int m = f.getModifiers();
            if (!Modifier.isStatic(m)) own++;
            check(!Modifier.isStatic(m) || Modifier.isFinal(m), f + " is final");
            boolean constant = Set.of("NONE", "BAD", "STATE", "FULL").contains(f.getName());
            if (c == TypeStarts.class) {
                check(constant ? Modifier.isPublic(m) : Modifier.isPrivate(m), f + " is as visible as it should be");
            }
        }
        check(own <= 20, c + " has at most twenty fields");
    }

    private static void checkDocument(String document) {
        Set<String> told = new TreeSet<>();
        Matcher line = DOCUMENT_LINE.matcher(document);
        while (line.find()) told.add(line.group(1).replaceAll("(int|boolean) \\w+", "$1"));
        check(told.equals(new TreeSet<>(Arrays.asList(FACE))), "the document's face is " + told);
    }

    private static void checkConstants() {
        check(TypeStarts.NONE == -1, "NONE is -1");
        check(TypeStarts.BAD == -2, "BAD is -2");
        check(TypeStarts.STATE == -3, "STATE is -3");
        check(TypeStarts.FULL == -4, "FULL is -4");
    }
}
