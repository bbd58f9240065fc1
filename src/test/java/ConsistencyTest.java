import java.lang.reflect.Field;
import java.util.List;

/**
 * Promise 37 where it does not hold: no run of calls comes to that, so this test shifts dates by
 * the planner's own fields, which it finds by their names.
 */
public final class ConsistencyTest {
    private static final Checks checks = new Checks("ConsistencyTest");

    public static void main(String[] args) throws ReflectiveOperationException {
        for (int day = 0; day < 28; day++) {
            for (int person = 0; person < 6; person++) {
                aPersonTwice(day, person);
                countsThatDisagree(day, person);
            }
            aRoomTwice(day);
        }
        checks.end();
    }

    /** Two dates of the times 0 and 1, and 4 and 5, in two rooms of one house. */
    private static void aPersonTwice(int day, int person) throws ReflectiveOperationException {
        CalendaryPlanner planner = new CalendaryPlanner();
        planner.ask(person, 0, day, 0, 2);
        planner.setRoom(0, 0, 0);
        planner.ask(person, 0, day, 4, 2);
        String what = "p37 day " + day + ", person " + person;
        checks.due(what, true, planner.isConsistent());
        shift(planner, 1, 2);
        checks.due(what + ", one right behind the other", true, planner.isConsistent());
        shift(planner, 1, 1);
        checks.due(what + ", one time in common", false, planner.isConsistent());
        shift(planner, 1, 0);
        checks.due(what + ", all times in common", false, planner.isConsistent());
        planner.cancel(1, 0);
        checks.due(what + ", one is cancelled", true, planner.isConsistent());
    }

    private static void aRoomTwice(int day) throws ReflectiveOperationException {
        CalendaryPlanner planner = new CalendaryPlanner();
        planner.ask(0, 2, day, 0, 2);
        planner.ask(2, 8, day, 4, 2);
        String what = "p37 a room on day " + day;
        shift(planner, 1, 2);
        checks.due(what + ", one right behind the other", true, planner.isConsistent());
        shift(planner, 1, 1);
        checks.due(what + ", one time in common", false, planner.isConsistent());
    }

    /** The sweep wants dates in their order: the first one's shift makes it count too much. */
    private static void countsThatDisagree(int day, int person)
            throws ReflectiveOperationException {
        CalendaryPlanner planner = new CalendaryPlanner();
        planner.ask(person, 0, day, 2, 2);
        planner.ask(person, 0, day, 8, 2);
        shift(planner, 0, 12);
        checks.due("p37 counts of day " + day + ", person " + person, false,
                planner.isConsistent());
    }

    private static void shift(CalendaryPlanner planner, int rank, int time)
            throws ReflectiveOperationException {
        Object meeting = ((List<?>) field(planner, "meetings").get(planner)).get(rank);
        Object date = ((List<?>) field(meeting, "dates").get(meeting)).get(0);
        Object slot = field(date, "slot").get(date);
        field(slot, "time").setInt(slot, time);
    }

    private static Field field(Object owner, String name) throws ReflectiveOperationException {
        Field field = owner.getClass().getDeclaredField(name);
        field.setAccessible(true);
        return field;
    }
}
