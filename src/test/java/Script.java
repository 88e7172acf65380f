import java.lang.reflect.InvocationTargetException;
import java.lang.reflect.Method;

/**
 * A run of calls on one new object, written as lines such as
 *
 * <pre>
 *   person(1, 2, 0) = 0
 *   person(256, 0, 0) ! IndexOutOfBoundsException
 *   budget(0, 30, 1)
 * </pre>
 *
 * A boolean answer counts 1 or 0; a line with neither '=' nor '!' is of a void method, which must not throw. An
 * exception must be of exactly the class that is named: what the machine itself throws is never right.
 */
final class Script {
    /** What an object answers after so many calls is free, so no run may ask for more. */
    private static final int MOST_CALLS = 512;
    private static int wrong = 0;
    private final AbsenceRows rows = new AbsenceRows();
    private final String name;
    private int calls = 0;

    private Script(String name) {
        this.name = name;
    }

    static void run(String name, String lines) {
        Script script = new Script(name);
        for (String line : lines.split("\n")) {
            if (!line.isBlank()) {
                script.check(line.strip());
            }
        }
    }

    /** Ends the test: with exit code 1 if an answer was wrong. */
    static void end() {
        System.out.println(wrong == 0 ? "all answers are as due" : wrong + " answers are not as due");
        if (wrong != 0) {
            System.exit(1);
        }
    }

    static void fail(String message) {
        wrong++;
        System.out.println(message);
    }

    private void check(String line) {
        calls++;
        if (calls == MOST_CALLS + 1) {
            fail(name + ": the run has more than " + MOST_CALLS + " calls");
        }
        String call = line.split(" [=!] ")[0];
        String want = line.length() == call.length() ? "= nothing" : line.substring(call.length()).strip();
        String got = answerTo(rows, call);
        if (!got.equals(want)) {
            fail(name + ": " + call + " answered " + got + ", due is " + want);
        }
    }

    /** "= answer", "= nothing" of a void method, or "! the exception's name". */
    static String answerTo(Object target, String call) {
        int open = call.indexOf('(');
        String inner = call.substring(open + 1, call.length() - 1);
        String[] words = inner.isBlank() ? new String[0] : inner.split(", *");
        Method method = find(target, call.substring(0, open));
        Object[] values = new Object[words.length];
        for (int i = 0; i < words.length; i++) {
            boolean isBoolean = method.getParameterTypes()[i] == boolean.class;
            values[i] = isBoolean ? (Object) Boolean.valueOf(words[i]) : (Object) Integer.valueOf(words[i]);
        }
        return answerTo(target, method, values);
    }

    static String answerTo(Object target, Method method, Object[] values) {
        try {
            Object answer = method.invoke(target, values);
            if (answer instanceof Boolean yes) {
                return yes ? "= 1" : "= 0";
            }
            return answer == null ? "= nothing" : "= " + answer;
        } catch (InvocationTargetException e) {
            return "! " + e.getCause().getClass().getSimpleName();
        } catch (IllegalAccessException e) {
            throw new IllegalStateException(e);
        }
    }

    static Method find(Object target, String name) {
        for (Method method : target.getClass().getDeclaredMethods()) {
            if (method.getName().equals(name)) {
                method.setAccessible(true);
                return method;
            }
        }
        throw new IllegalArgumentException("no method " + name);
    }
}
