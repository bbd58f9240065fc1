import java.util.Objects;
import java.util.function.Supplier;

/** Counts and prints what is not as it is due; every test ends by asking it for the exit code. */
final class Checks {
    private final String suite;
    private int done = 0;
    private int wrong = 0;

    Checks(String suite) {
        this.suite = suite;
    }

    void due(String what, Object due, Object got) {
        done++;
        if (!Objects.equals(due, got)) {
            wrong++;
            System.out.println(suite + ": " + what + " answered " + got + ", due is " + due);
        }
    }

    /** The very class is compared: a subclass that the machine throws would not be as promised. */
    void dueThrow(String what, Class<? extends RuntimeException> due, Supplier<?> call) {
        Object got;
        try {
            got = call.get();
        } catch (RuntimeException e) {
            got = e.getClass();
        }
        due(what, due, got);
    }

    void end() {
        System.out.println(suite + ": " + done + " checks, " + wrong + " wrong");
        if (wrong != 0) {
            System.exit(1);
        }
    }
}
