import java.lang.reflect.Method;
import java.lang.reflect.Modifier;
import java.util.Arrays;
import java.util.HashMap;
import java.util.Map;

/** Runs of 512 calls, the same ones each time, on AbsenceRows and on the Model: the answers must be the same. */
public final class ModelTest {
    private static final int RUNS = 300;
    private static final int CALLS = 512;
    private static final int[] EDGES = {-2147483648, -1, 0, 1, 729, 730, 2147483647};

    /** The calls; those that stand here more often are made more often. */
    private static final String[] KINDS = {
        "person", "person", "budget", "budget", "carry", "holiday", "holiday", "working", "crew", "member", "member",
        "member", "ask", "ask", "ask", "ask", "ask", "ask", "ask", "grant", "grant", "grant", "grant", "grant",
        "grant", "grant", "withdraw", "askAt", "left", "left", "left", "absent", "present", "present", "present",
        "held", "held", "bar", "patience", "call", "call", "call", "answer", "answer", "callAt", "callAt", "callAt",
        "asked", "tick", "tick",
    };

    private final Map<String, Method> ours = new HashMap<>();
    private final Map<String, Method> theirs = new HashMap<>();
    private final Map<String, Integer> seen = new HashMap<>();
    private long seed = 20261115;
    private int persons;
    private int crews;
    private int asks;
    private int held;
    private int calls;
    private int day;

    public static void main(String[] args) {
        ModelTest test = new ModelTest();
        for (int run = 0; run < RUNS; run++) {
            if (!test.runsAlike(run)) {
                break;
            }
        }
        test.everyCallAnswersAndRefuses();
        Script.end();
    }

    private boolean runsAlike(int run) {
        AbsenceRows rows = new AbsenceRows();
        Model model = new Model();
        persons = 0;
        crews = 0;
        asks = 0;
        held = 0;
        calls = 0;
        day = 0;
        int style = next(3);
        String favourite = KINDS[next(KINDS.length)];
        for (int i = 0; i < CALLS; i++) {
            String name = nameOfCall(i, favourite);
            Object[] values = values(name, style);
            String got = Script.answerTo(rows, method(ours, rows, name), values);
            String want = Script.answerTo(model, method(theirs, model, name), values);
            if (!got.equals(want)) {
                Script.fail("run " + run + ", call " + i + ": " + name + Arrays.toString(values)
                    + " answered " + got + ", due is " + want);
                return false;
            }
            note(name, want, values);
        }
        return true;
    }

    /** A run has a favourite call, so that some runs come to the end of the room. */
    private String nameOfCall(int i, String favourite) {
        if (i < 10) {
            return i < 7 ? "person" : "crew";
        }
        return next(3) == 0 ? favourite : KINDS[next(KINDS.length)];
    }

    private void note(String name, String answer, Object[] values) {
        boolean refused = answer.startsWith("!");
        seen.merge(name + (refused ? " " + answer : " ="), 1, Integer::sum);
        if (refused) {
            return;
        }
        switch (name) {
            case "person" -> persons++;
            case "crew" -> crews++;
            case "ask" -> asks++;
            case "call" -> calls++;
            case "grant" -> held += answer.equals("= 0") ? 1 : 0;
            case "tick" -> day += (Integer) values[0] / 24;
            default -> { }
        }
    }

    /** A comparison tells nothing of a call that was never answered, or of a refusal that never came. */
    private void everyCallAnswersAndRefuses() {
        for (Method method : AbsenceRows.class.getDeclaredMethods()) {
            if (Modifier.isPublic(method.getModifiers())) {
                require(method.getName() + " =");
                for (Class<?> thrown : method.getExceptionTypes()) {
                    require(method.getName() + " ! " + thrown.getSimpleName());
                }
            }
        }
    }

    private void require(String outcome) {
        if (!seen.containsKey(outcome)) {
            Script.fail("no run had the outcome " + outcome);
        }
    }

    private static Method method(Map<String, Method> methods, Object target, String name) {
        return methods.computeIfAbsent(name, key -> Script.find(target, key));
    }

    private Object[] values(String name, int style) {
        Object[] values = plainValues(name, style);
        if (next(25) == 0) {
            int i = next(values.length);
            if (values[i] instanceof Integer) {
                values[i] = EDGES[next(EDGES.length)];
            }
        }
        return values;
    }

    private Object[] plainValues(String name, int style) {
        int p = next(persons + (next(20) == 0 ? 1 : 0));
        int crew = next(crews + (next(20) == 0 ? 1 : 0));
        int ask = next(4) == 0 ? next(asks + 1) : Math.max(0, asks - 1 - next(6));
        int call = next(3) == 0 ? next(calls + 1) : Math.max(0, calls - 1 - next(6));
        return switch (name) {
            case "person" -> new Object[] {next(2) == 0 ? 255 : next(257), next(11), next(2) == 0 ? 0 : someDay(style)};
            case "budget" -> new Object[] {p, next(3) == 0 ? next(402) : next(90), next(14)};
            case "carry" -> new Object[] {next(6) == 0 ? next(102) : next(12)};
            case "holiday" -> new Object[] {someDay(style)};
            case "crew" -> new Object[] {next(2) == 0 ? 0 : 1 << next(9), next(4) == 0 ? next(22) : next(4)};
            case "member" -> new Object[] {crew, p, next(4) != 0};
            case "ask", "working" -> spanValues(name, p, style);
            case "grant" -> new Object[] {ask, p};
            case "withdraw" -> new Object[] {ask};
            case "askAt" -> new Object[] {ask, next(6)};
            case "left" -> new Object[] {p, next(9) % 3 == 2 ? next(3) : next(2), next(9) == 0 ? 2 : next(2)};
            case "absent" -> new Object[] {p, someDay(style)};
            case "present" -> new Object[] {crew, someDay(style)};
            case "held" -> new Object[] {next(4) == 0 ? next(held + 1) : Math.max(0, held - 1), next(4)};
            case "bar" -> new Object[] {p, next(9), someDay(style)};
            case "patience" -> new Object[] {next(3) == 0 ? next(50) : 1 + next(5)};
            case "call" -> new Object[] {crew, next(2) == 0 ? day + next(3) : someDay(style)};
            case "answer" -> new Object[] {call, next(2) == 0};
            case "callAt" -> new Object[] {call, next(5)};
            case "asked" -> new Object[] {p};
            case "tick" -> new Object[] {style == 2 && next(3) == 0 ? next(2002) : next(6)};
            default -> throw new IllegalArgumentException(name);
        };
    }

    private Object[] spanValues(String name, int p, int style) {
        int from = someDay(style);
        int to = from + (next(8) == 0 ? next(60) : next(5)) - (next(15) == 0 ? 1 : 0);
        if (name.equals("working")) {
            return new Object[] {from, next(2) == 0 ? someDay(style) : to};
        }
        return new Object[] {p, next(25) == 0 ? 3 : next(3), from, to, next(2) == 0 ? 0 : next(5)};
    }

    /** Days close together let asks, calls and crews meet; the styles differ in where they are. */
    private int someDay(int style) {
        if (next(6) == 0) {
            return next(731);
        }
        return switch (style) {
            case 0 -> next(15);
            case 1 -> 355 + next(20);
            default -> day + next(30);
        };
    }

    private int next(int below) {
        if (below <= 0) {
            return 0;
        }
        seed = seed * 6364136223846793005L + 1442695040888963407L;
        return (int) ((seed >>> 33) % below);
    }
}
