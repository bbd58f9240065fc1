import java.lang.reflect.InvocationTargetException;
import java.lang.reflect.Method;
import java.lang.reflect.Modifier;
import java.util.ArrayList;
import java.util.Arrays;
import java.util.Collections;
import java.util.Comparator;
import java.util.HashSet;
import java.util.List;
import java.util.Map;

/**
 * Runs of 512 calls, the same ones on a CalendaryPlanner and on a PlainPlanner: all answers and
 * exceptions must be the same. The calls are drawn by a fixed rule, so each run is the same again.
 */
public final class ComparedRunsTest {
    private static final int RUNS = 400;
    private static final int CALLS = 512;
    private static final int[] FAR_OFF = {Integer.MIN_VALUE, Integer.MAX_VALUE, -1, 64, 1 << 20};
    private static final char[] ANSWERS = {'y', 'n', 'o'};

    private static final String OFTEN_DRAWN =
            "ask ask ask extend extend answer answer answer answer move move cancel remove";

    /** Each argument's kind: its number of values from 0 on, or a letter for a kind of its own. */
    private static final Map<String, String> ARGUMENTS = Map.ofEntries(
            Map.entry("setRoom", "4 7 2"), Map.entry("setGap", "4"), Map.entry("seatsOf", "4"),
            Map.entry("houseOf", "4"), Map.entry("ask", "6 64 D 16 7"),
            Map.entry("extend", "M 4 6"), Map.entry("remove", "M"), Map.entry("answer", "M 6 A"),
            Map.entry("cancel", "M 6"), Map.entry("move", "M 6 D 16"),
            Map.entry("meetingCount", ""), Map.entry("meetingAt", "9"), Map.entry("hostOf", "M"),
            Map.entry("answerOf", "M 6"), Map.entry("expected", "M"), Map.entry("dateCount", "M"),
            Map.entry("dayOf", "M 6"), Map.entry("timeOf", "M 6"),
            Map.entry("isCancelled", "M 6"), Map.entry("roomOf", "M 6"),
            Map.entry("refusalReason", ""), Map.entry("refusalDetail", ""),
            Map.entry("isFree", "6 D 16"), Map.entry("meetingOf", "6 D 16"),
            Map.entry("freeTimes", "6 D"), Map.entry("freeByTrying", "6 D"),
            Map.entry("longestFree", "6 D"), Map.entry("firstCommon", "64 7 D"),
            Map.entry("commonCount", "64 7 D"), Map.entry("roomFor", "64 7 D 16"),
            Map.entry("usedTimes", "4 D"), Map.entry("walks", "6 D"), Map.entry("sittings", ""),
            Map.entry("meanExpected", ""), Map.entry("yesShare", ""),
            Map.entry("isConsistent", ""));

    private static final Checks checks = new Checks("ComparedRunsTest");

    private long state;
    private final int shownDays;
    private final CalendaryPlanner planner = new CalendaryPlanner();
    private final PlainPlanner plain = new PlainPlanner();

    /** Few days make many clashes; with all days, dates go up to the last one. */
    private ComparedRunsTest(int run) {
        state = 7919L * run + 1;
        shownDays = run % 4 == 0 ? 28 : 1 + run % 4;
    }

    public static void main(String[] args) throws ReflectiveOperationException {
        List<Method> methods = methods();
        checks.due("calls of the face", ARGUMENTS.size(), new HashSet<>(methods).size());
        for (int run = 0; run < RUNS; run++) {
            new ComparedRunsTest(run).go(run, methods);
        }
        checks.end();
    }

    /** The calls that change meetings stand several times, so that they are drawn more often. */
    private static List<Method> methods() {
        List<Method> methods = new ArrayList<>();
        for (Method method : CalendaryPlanner.class.getDeclaredMethods()) {
            if (Modifier.isPublic(method.getModifiers())) {
                methods.add(method);
                for (String often : OFTEN_DRAWN.split(" ")) {
                    if (often.equals(method.getName())) {
                        methods.addAll(Collections.nCopies(3, method));
                    }
                }
            }
        }
        methods.sort(Comparator.comparing(Method::getName));
        return methods;
    }

    private void go(int run, List<Method> methods) throws ReflectiveOperationException {
        for (int call = 0; call < CALLS; call++) {
            Method method = methods.get(draw(methods.size()));
            Object[] arguments = arguments(ARGUMENTS.get(method.getName()));
            Method same = PlainPlanner.class.getMethod(method.getName(),
                    method.getParameterTypes());
            String what = "run " + run + ", call " + call + ": " + method.getName()
                    + Arrays.toString(arguments);
            checks.due(what, outcome(same, plain, arguments), outcome(method, planner, arguments));
        }
    }

    private static Object outcome(Method method, Object planner, Object[] arguments)
            throws ReflectiveOperationException {
        try {
            return method.invoke(planner, arguments);
        } catch (InvocationTargetException e) {
            return Checks.kindOf(e.getCause());
        }
    }

    private Object[] arguments(String kinds) {
        if (kinds.isEmpty()) {
            return new Object[0];
        }
        String[] each = kinds.split(" ");
        Object[] arguments = new Object[each.length];
        for (int i = 0; i < each.length; i++) {
            arguments[i] = argument(each[i]);
        }
        return arguments;
    }

    private Object argument(String kind) {
        boolean wrong = draw(60) == 0;
        if (kind.equals("A")) {
            return wrong ? (char) draw(256) : ANSWERS[draw(ANSWERS.length)];
        }
        if (wrong) {
            return FAR_OFF[draw(FAR_OFF.length)];
        }
        if (kind.equals("M")) {
            return draw(12) == 0 || plain.meetingCount() == 0
                    ? draw(40) : plain.meetingAt(draw(plain.meetingCount()));
        }
        return kind.equals("D") ? draw(shownDays) : draw(Integer.parseInt(kind) + draw(20) / 19);
    }

    private int draw(int below) {
        state = state * 6364136223846793005L + 1442695040888963407L;
        return (int) ((state >>> 33) % below);
    }
}
