import java.util.Objects;
import java.util.function.Supplier;

/** Counts and prints what is not as it is due; every test ends by asking it for the exit code. */
final class Checks {
    private final String suite;
    private int done = 0;
    private int wrong = 0;

    Checks(String suite) {
        this.suite = suite;
    }

    void due(String what, Object due, Object got) {
        done++;
        if (!Objects.equals(due, got)) {
            wrong++;
            System.out.println(suite + ": " + what + " answered " + got + ", due is " + due);
        }
    }

    /** The call throws, and changes nothing, not even the latest refusal. */
    void dueThrow(String what, CalendaryPlanner planner, Class<? extends RuntimeException> due,
            Supplier<?> call) {
        String refusal = Seen.refusalOf(planner);
        dueUnchanged(what, planner, due, call);
        due(what + ": the refusal then", refusal, Seen.refusalOf(planner));
    }

    /** The call is refused, and changes nothing but the latest refusal. */
    void dueRefusal(String what, CalendaryPlanner planner, int reason, int detail,
            Supplier<?> call) {
        dueUnchanged(what, planner, UnsupportedOperationException.class, call);
        due(what + ": reason and detail", reason + " " + detail, Seen.refusalOf(planner));
    }

    /** What the call answers, or the class of what it throws. */
    static Object outcome(Supplier<?> call) {
        try {
            return call.get();
        } catch (RuntimeException e) {
            return kindOf(e);
        }
    }

    /**
     * The class of what a planner throws by a statement of its own; what the library throws for it,
     * such as a list's exception for a wrong index, is of no class that could be due.
     */
    static Object kindOf(Throwable thrown) {
        StackTraceElement[] trace = thrown.getStackTrace();
        boolean own = trace.length > 0 && trace[0].getClassName().matches(
                "(CalendaryPlanner|PlainPlanner)(\\$.*)?");
        return own ? thrown.getClass() : "by the machine: " + thrown;
    }

    void end() {
        System.out.println(suite + ": " + done + " checks, " + wrong + " wrong");
        if (wrong != 0) {
            System.exit(1);
        }
    }

    /** The very class is compared: a subclass that the machine throws would not be as promised. */
    private void dueUnchanged(String what, CalendaryPlanner planner, Class<?> due,
            Supplier<?> call) {
        String before = Seen.of(planner);
        due(what, due, outcome(call));
        due(what + ": what is seen then", before, Seen.of(planner));
    }
}
