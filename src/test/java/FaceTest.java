import java.io.IOException;
import java.lang.reflect.Constructor;
import java.lang.reflect.Field;
import java.lang.reflect.Method;
import java.lang.reflect.Modifier;
import java.nio.file.Files;
import java.nio.file.Path;
import java.util.Arrays;
import java.util.Set;
import java.util.TreeSet;
import java.util.regex.MatchResult;
import java.util.regex.Pattern;
import java.util.stream.Collectors;
import java.util.stream.Stream;

/** The public face of the document, and those rules of LANGUAGE.md that can be seen in the class and its source. */
public final class FaceTest {
    private static final String[] FACE = {
        "int person(int, int, int) IndexOutOfBoundsException UnsupportedOperationException",
        "void budget(int, int, int) IllegalArgumentException IndexOutOfBoundsException IllegalStateException",
        "void carry(int) IndexOutOfBoundsException IllegalStateException",
        "void holiday(int) IndexOutOfBoundsException IllegalStateException",
        "int working(int, int) IndexOutOfBoundsException",
        "int crew(int, int) IndexOutOfBoundsException UnsupportedOperationException",
        "int member(int, int, boolean) IllegalArgumentException IllegalStateException",
        "int ask(int, int, int, int, int) IllegalArgumentException IndexOutOfBoundsException IllegalStateException"
            + " UnsupportedOperationException",
        "int grant(int, int) IllegalArgumentException IllegalStateException",
        "int withdraw(int) IllegalArgumentException IllegalStateException",
        "int askAt(int, int) IllegalArgumentException",
        "int left(int, int, int) IllegalArgumentException",
        "boolean absent(int, int) IllegalArgumentException IndexOutOfBoundsException",
        "int present(int, int) IllegalArgumentException IndexOutOfBoundsException",
        "int held(int, int) IllegalArgumentException",
        "void bar(int, int, int) IllegalArgumentException IndexOutOfBoundsException",
        "void patience(int) IndexOutOfBoundsException",
        "int call(int, int) IllegalArgumentException IndexOutOfBoundsException UnsupportedOperationException",
        "int answer(int, boolean) IllegalArgumentException IllegalStateException",
        "int callAt(int, int) IllegalArgumentException",
        "int asked(int) IllegalArgumentException",
        "int tick(int) IndexOutOfBoundsException",
    };

    /** What the rules 2, 4, 5, 6 and 13 leave out, where a single word shows it. */
    private static final String[] RULED_OUT = {
        "::", "finally", "synchronized", "assert ", "static {", "Exact(", "System.out", "System.nano", "System.current",
        "Random", "Thread", "Math.random", "NullPointerException", "ArrayIndexOutOfBounds", "ClassCastException",
        "NegativeArraySize", "ArrayStoreException", "catch (Exception ", "catch (Throwable ",
    };

    private static final Path DOCUMENT = Path.of("../shared/DOC.md");
    private static final Pattern SIGNATURE = Pattern.compile("(\\w+) (\\w+)\\(([^()]*)\\) throws ([\\w, ]+)");

    public static void main(String[] args) throws IOException {
        theFace();
        theDocument();
        nothingElseIsVisible();
        namesOfPrivateMethods();
        sizes();
        source();
        Script.end();
    }

    private static void theFace() {
        int modifiers = AbsenceRows.class.getModifiers();
        if (!Modifier.isPublic(modifiers) || !Modifier.isFinal(modifiers)) {
            Script.fail("the class is not public and final");
        }
        Set<String> got = new TreeSet<>();
        for (Method method : AbsenceRows.class.getDeclaredMethods()) {
            if (Modifier.isPublic(method.getModifiers())) {
                got.add(describe(method));
            }
        }
        Set<String> want = new TreeSet<>(Arrays.asList(FACE));
        if (!got.equals(want)) {
            Script.fail("the face is " + got + ", due is " + want);
        }
        Constructor<?>[] made = AbsenceRows.class.getDeclaredConstructors();
        if (made.length != 1 || !Modifier.isPublic(made[0].getModifiers()) || made[0].getParameterCount() != 0) {
            Script.fail("the constructor is not the document's");
        }
    }

    /** The document tells each method twice: in its face, and at the head of the method's promise. */
    private static void theDocument() throws IOException {
        if (!Files.isReadable(DOCUMENT)) {
            System.out.println("no " + DOCUMENT + ": the face is not compared with it");
            return;
        }
        String text = Files.readString(DOCUMENT);
        Set<String> want = new TreeSet<>(Arrays.asList(FACE));
        Set<String> inFace = signatures(text, "    public ", ";");
        Set<String> inPromises = signatures(text, "`", "`: ");
        if (!inFace.equals(want) || !inPromises.equals(want)) {
            Script.fail("the document's face is " + inFace + ", its promises' is " + inPromises + ", due is " + want);
        }
    }

    private static Set<String> signatures(String text, String before, String after) {
        Pattern pattern = Pattern.compile("(?m)^" + before + SIGNATURE + after);
        return pattern.matcher(text).results().map(FaceTest::describe).collect(Collectors.toCollection(TreeSet::new));
    }

    private static String describe(MatchResult signature) {
        String types = signature.group(3).replaceAll("(\\w+) \\w+", "$1");
        String thrown = signature.group(4).replace(",", "");
        return signature.group(1) + " " + signature.group(2) + "(" + types + ") " + thrown;
    }

    private static String describe(Method method) {
        String types = names(method.getParameterTypes(), ", ");
        String thrown = names(method.getExceptionTypes(), " ");
        return method.getReturnType() + " " + method.getName() + "(" + types + ") " + thrown;
    }

    private static String names(Class<?>[] types, String between) {
        return Arrays.stream(types).map(Class::getSimpleName).collect(Collectors.joining(between));
    }

    private static void nothingElseIsVisible() {
        for (Method method : AbsenceRows.class.getDeclaredMethods()) {
            int modifiers = method.getModifiers();
            if (!Modifier.isPublic(modifiers) && !Modifier.isPrivate(modifiers)) {
                Script.fail(method + " is visible");
            }
        }
        for (Field field : AbsenceRows.class.getDeclaredFields()) {
            if (!Modifier.isPrivate(field.getModifiers())) {
                Script.fail(field + " is visible");
            }
        }
        for (Class<?> inside : AbsenceRows.class.getDeclaredClasses()) {
            if (!Modifier.isStatic(inside.getModifiers()) || Modifier.isPublic(inside.getModifiers())) {
                Script.fail(inside + " is not static, or is public");
            }
        }
    }

    private static void namesOfPrivateMethods() {
        Set<String> face = new TreeSet<>();
        for (Method method : AbsenceRows.class.getMethods()) {
            face.add(method.getName());
        }
        for (Method method : AbsenceRows.class.getDeclaredMethods()) {
            if (Modifier.isPrivate(method.getModifiers()) && face.contains(method.getName())) {
                Script.fail(method + " bears the name of a public one");
            }
        }
    }

    /** Rules 5 and 11, of the class and of those inside it. */
    private static void sizes() {
        Class<?>[] inside = AbsenceRows.class.getDeclaredClasses();
        if (inside.length + 1 > 12) {
            Script.fail("there are more than twelve classes");
        }
        Stream.concat(Stream.of(AbsenceRows.class), Stream.of(inside)).forEach(FaceTest::sizeOf);
    }

    private static void sizeOf(Class<?> type) {
        for (Method method : type.getDeclaredMethods()) {
            if (method.getParameterCount() > 7) {
                Script.fail(method + " takes more than seven parameters");
            }
        }
        int fields = 0;
        for (Field field : type.getDeclaredFields()) {
            if (!Modifier.isStatic(field.getModifiers())) {
                fields++;
            } else if (!Modifier.isFinal(field.getModifiers())) {
                Script.fail(field + " is static state");
            }
        }
        if (fields > 20) {
            Script.fail(type + " has more than twenty fields");
        }
    }

    private static void source() throws IOException {
        String text = withoutRemarks(Files.readString(Path.of("src/main/java/AbsenceRows.java")));
        for (String word : RULED_OUT) {
            if (text.contains(word)) {
                Script.fail("the source has '" + word + "'");
            }
        }
    }

    /** Remarks and written texts may have any word. */
    private static String withoutRemarks(String text) {
        return text.replaceAll("(?s)/\\*.*?\\*/", " ").replaceAll("//[^\n]*", " ")
            .replaceAll("\"(?:[^\"\\\\\n]|\\\\.)*\"", "\"\"");
    }
}
