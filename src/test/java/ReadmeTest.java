import java.io.IOException;
import java.lang.reflect.Method;
import java.lang.reflect.Modifier;
import java.nio.file.Files;
import java.nio.file.Path;
import java.util.HashMap;
import java.util.Map;
import java.util.Set;
import java.util.TreeSet;
import java.util.regex.Matcher;
import java.util.regex.Pattern;
import java.util.stream.Collectors;
import java.util.stream.Stream;

/**
 * Makes the calls that README.md shows, in its order, and compares the answers with those that stand behind them.
 * Every line of a java block must be a call of the form that README.md tells, so that none is left out unseen.
 */
public final class ReadmeTest {
    private static final Pattern BLOCK = Pattern.compile("(?ms)^```java\n(.*?)^```$");
    private static final Pattern NEW_OBJECT = Pattern.compile("AbsenceRows rows = new AbsenceRows\\(\\);");
    private static final Pattern CALL =
        Pattern.compile("(?:(int|boolean) (\\w+) = )?rows\\.(\\w+)\\(([^()]*)\\);(?: +// (.*))?");
    private static final Pattern REMARK = Pattern.compile("(-?\\d+|true|false|\\w+Exception)(?:: .*)?");
    private static final Pattern ROW = Pattern.compile("(?m)^\\| (\\w+Test) \\|");
    private static final int MOST_CALLS = 512;

    private final Map<String, String> variables = new HashMap<>();
    private final Set<String> shown = new TreeSet<>();
    private AbsenceRows rows = null;
    private int calls = 0;

    public static void main(String[] args) throws IOException {
        String text = Files.readString(Path.of("README.md"));
        ReadmeTest test = new ReadmeTest();
        Matcher blocks = BLOCK.matcher(text);
        while (blocks.find()) {
            blocks.group(1).lines().filter(line -> !line.isBlank()).forEach(test::check);
        }
        test.everyMethodIsShown();
        everyTestHasARow(text);
        Script.end();
    }

    private void check(String line) {
        if (NEW_OBJECT.matcher(line).matches() && rows == null) {
            rows = new AbsenceRows();
            return;
        }
        Matcher parts = CALL.matcher(line);
        if (rows == null || !parts.matches() || !faceHas(parts.group(3))) {
            Script.fail("README.md shows no call of the object: " + line);
            return;
        }
        Method method = Script.find(rows, parts.group(3));
        String got = answerTo(method, parts.group(4));
        String want = answerNamed(method, parts.group(5));
        if (!got.equals(want)) {
            Script.fail("README.md shows: " + line + " This answered " + got + ", named is " + want);
        }
        shown.add(method.getName());
        if (parts.group(2) != null) {
            declare(parts.group(1), parts.group(2), method, got);
        }
    }

    private String answerTo(Method method, String arguments) {
        calls++;
        if (calls == MOST_CALLS + 1) {
            Script.fail("README.md shows more than " + MOST_CALLS + " calls of one object");
        }
        String[] words = arguments.split(", ");
        Object[] values = new Object[words.length];
        Class<?>[] types = method.getParameterTypes();
        if (values.length != types.length) {
            return "no call with so many arguments";
        }
        for (int i = 0; i < words.length; i++) {
            String word = variables.getOrDefault(words[i], words[i]);
            boolean isOfType = word.matches(types[i] == int.class ? "-?\\d+" : "true|false");
            if (!isOfType) {
                return "no call, since '" + words[i] + "' is no " + types[i];
            }
            values[i] = types[i] == int.class ? (Object) Integer.valueOf(word) : (Object) Boolean.valueOf(word);
        }
        return Script.answerTo(rows, method, values);
    }

    /** What the remark behind a call names, in the form of Script; only a void method may have no answer there. */
    private static String answerNamed(Method method, String remark) {
        Matcher parts = REMARK.matcher(remark == null ? "" : remark);
        boolean isVoid = method.getReturnType() == void.class;
        if (!parts.matches()) {
            return isVoid ? "= nothing" : "no answer";
        }
        String answer = parts.group(1);
        if (answer.endsWith("Exception")) {
            return "! " + answer;
        }
        boolean isOfType = method.getReturnType() == (answer.matches("true|false") ? boolean.class : int.class);
        if (!isOfType) {
            return "no answer of the method's type";
        }
        return "= " + answer.replace("true", "1").replace("false", "0");
    }

    /** Java itself would refuse a second variable of one name, or one of another type than the method's. */
    private void declare(String type, String name, Method method, String got) {
        boolean isRight = method.getReturnType().getName().equals(type) && got.startsWith("= ");
        String value = got.substring(2);
        String written = type.equals("boolean") ? Boolean.toString(value.equals("1")) : value;
        if (!isRight || variables.put(name, written) != null) {
            Script.fail("README.md declares no new " + type + " " + name + " by " + method.getName());
        }
    }

    private static boolean faceHas(String name) {
        return face().contains(name);
    }

    private static Set<String> face() {
        return Stream.of(AbsenceRows.class.getDeclaredMethods())
            .filter(method -> Modifier.isPublic(method.getModifiers()))
            .map(Method::getName)
            .collect(Collectors.toCollection(TreeSet::new));
    }

    private void everyMethodIsShown() {
        Set<String> missing = face();
        missing.removeAll(shown);
        if (!missing.isEmpty()) {
            Script.fail("README.md shows no call of " + missing);
        }
    }

    private static void everyTestHasARow(String text) throws IOException {
        Set<String> listed = ROW.matcher(text).results().map(row -> row.group(1))
            .collect(Collectors.toCollection(TreeSet::new));
        Set<String> there;
        try (Stream<Path> files = Files.list(Path.of("src/test/java"))) {
            there = files.map(file -> file.getFileName().toString())
                .filter(name -> name.endsWith("Test.java"))
                .map(name -> name.substring(0, name.length() - ".java".length()))
                .collect(Collectors.toCollection(TreeSet::new));
        }
        if (!listed.equals(there)) {
            Script.fail("README.md lists the tests " + listed + ", there are " + there);
        }
    }
}
