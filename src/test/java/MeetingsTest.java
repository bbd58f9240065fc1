import java.util.NoSuchElementException;

/** Promises 12 to 23: what is asked about meetings, dates and refusals. */
public final class MeetingsTest {
    private static final Class<NoSuchElementException> NO_SUCH = NoSuchElementException.class;
    private static final Class<IllegalArgumentException> ILLEGAL = IllegalArgumentException.class;
    private static final Class<IllegalStateException> STATE = IllegalStateException.class;
    private static final Class<IndexOutOfBoundsException> INDEX = IndexOutOfBoundsException.class;

    private static final Checks checks = new Checks("MeetingsTest");

    public static void main(String[] args) {
        countAndRanks();
        hostAndAnswers();
        expected();
        dates();
        noSuchMeeting();
        noSuchDate();
        refusals();
        checks.end();
    }

    /** Meeting 0 is gone; meeting 1 has the host 5, the people 0 and 3, and three dates. */
    private static CalendaryPlanner aPlanner() {
        CalendaryPlanner planner = new CalendaryPlanner();
        planner.ask(0, 0, 0, 0, 1);
        planner.ask(5, 1 | 8, 2, 9, 2);
        planner.extend(1, 3, 2);
        planner.remove(0);
        planner.cancel(1, 1);
        return planner;
    }

    private static void countAndRanks() {
        CalendaryPlanner planner = aPlanner();
        checks.due("p12 one", 1, planner.meetingCount());
        checks.due("p13 rank 0", 1, planner.meetingAt(0));
        planner.ask(0, 0, 10, 0, 1);
        planner.ask(0, 0, 11, 0, 1);
        planner.remove(2);
        checks.due("p12 two", 2, planner.meetingCount());
        checks.due("p13 rank 0 of two", 1, planner.meetingAt(0));
        checks.due("p13 rank 1 of two", 3, planner.meetingAt(1));
        for (int rank : new int[] {-1, 2, Integer.MIN_VALUE, Integer.MAX_VALUE}) {
            checks.dueThrow("p13 rank " + rank, NO_SUCH, () -> planner.meetingAt(rank));
        }
        checks.dueThrow("p13 no meetings", NO_SUCH, () -> new CalendaryPlanner().meetingAt(0));
    }

    private static void hostAndAnswers() {
        CalendaryPlanner planner = aPlanner();
        checks.due("p14 host", 5, planner.hostOf(1));
        planner.answer(1, 0, 'y');
        planner.answer(1, 3, 'n');
        char[] due = {'y', '-', '-', 'n', '-', 'h'};
        for (int person = 0; person < 6; person++) {
            checks.due("p15 answer of " + person, due[person], planner.answerOf(1, person));
        }
        planner.answer(1, 0, 'o');
        checks.due("p15 open", 'o', planner.answerOf(1, 0));
        for (int person : new int[] {-1, 6, 37, Integer.MIN_VALUE, Integer.MAX_VALUE}) {
            checks.dueThrow("p15 person " + person, ILLEGAL, () -> planner.answerOf(1, person));
        }
        checks.dueThrow("p15 no meeting, no person", NO_SUCH, () -> planner.answerOf(0, 6));
    }

    private static void expected() {
        CalendaryPlanner planner = aPlanner();
        checks.due("p16 open ones are expected", 3, planner.expected(1));
        planner.answer(1, 0, 'y');
        checks.due("p16 yes", 3, planner.expected(1));
        planner.answer(1, 3, 'n');
        checks.due("p16 no", 2, planner.expected(1));
        planner.answer(1, 0, 'n');
        checks.due("p16 the host alone", 1, planner.expected(1));
    }

    private static void dates() {
        CalendaryPlanner planner = aPlanner();
        checks.due("p17 cancelled ones included", 3, planner.dateCount(1));
        checks.due("p18 day of date 0", 2, planner.dayOf(1, 0));
        checks.due("p18 day of a cancelled date", 5, planner.dayOf(1, 1));
        checks.due("p18 day of the last date", 8, planner.dayOf(1, 2));
        checks.due("p19 time", 9, planner.timeOf(1, 0));
        checks.due("p19 time of a cancelled date", 9, planner.timeOf(1, 1));
        planner.move(1, 2, 8, 3);
        checks.due("p19 time of a moved date", 3, planner.timeOf(1, 2));
        checks.due("p20 not cancelled", false, planner.isCancelled(1, 0));
        checks.due("p20 cancelled", true, planner.isCancelled(1, 1));
        checks.due("p21 room", 1, planner.roomOf(1, 0));
        checks.dueThrow("p21 cancelled", STATE, () -> planner.roomOf(1, 1));
        planner.answer(1, 0, 'n');
        checks.due("p21 it keeps its room", 1, planner.roomOf(1, 0));
        planner.move(1, 0, 2, 9);
        checks.due("p21 until it is moved", 0, planner.roomOf(1, 0));
    }

    private static void noSuchMeeting() {
        CalendaryPlanner planner = aPlanner();
        for (int meeting : new int[] {0, 2, -1, Integer.MIN_VALUE, Integer.MAX_VALUE}) {
            checks.dueThrow("p14 " + meeting, NO_SUCH, () -> planner.hostOf(meeting));
            checks.dueThrow("p15 " + meeting, NO_SUCH, () -> planner.answerOf(meeting, 0));
            checks.dueThrow("p16 " + meeting, NO_SUCH, () -> planner.expected(meeting));
            checks.dueThrow("p17 " + meeting, NO_SUCH, () -> planner.dateCount(meeting));
            checks.dueThrow("p18 " + meeting, NO_SUCH, () -> planner.dayOf(meeting, -1));
            checks.dueThrow("p19 " + meeting, NO_SUCH, () -> planner.timeOf(meeting, -1));
            checks.dueThrow("p20 " + meeting, NO_SUCH, () -> planner.isCancelled(meeting, -1));
            checks.dueThrow("p21 " + meeting, NO_SUCH, () -> planner.roomOf(meeting, -1));
        }
    }

    private static void noSuchDate() {
        CalendaryPlanner planner = aPlanner();
        for (int date : new int[] {-1, 3, 6, Integer.MIN_VALUE, Integer.MAX_VALUE}) {
            checks.dueThrow("p18 date " + date, INDEX, () -> planner.dayOf(1, date));
            checks.dueThrow("p19 date " + date, INDEX, () -> planner.timeOf(1, date));
            checks.dueThrow("p20 date " + date, INDEX, () -> planner.isCancelled(1, date));
            checks.dueThrow("p21 date " + date, INDEX, () -> planner.roomOf(1, date));
        }
    }

    private static void refusals() {
        CalendaryPlanner planner = aPlanner();
        checks.dueThrow("p22 nothing refused", NO_SUCH, planner::refusalReason);
        checks.dueThrow("p23 nothing refused", NO_SUCH, planner::refusalDetail);
        checks.dueThrow("p22 busy", UnsupportedOperationException.class,
                () -> planner.ask(3, 0, 2, 10, 1));
        checks.due("p22 reason 1", 1, planner.refusalReason());
        checks.due("p23 person 3", 3, planner.refusalDetail());
        planner.ask(3, 0, 2, 11, 1);
        checks.dueThrow("p22 out of range", ILLEGAL, () -> planner.ask(0, 0, 28, 0, 1));
        checks.due("p22 the latest stays", 1, planner.refusalReason());
        checks.due("p23 the latest stays", 3, planner.refusalDetail());
        planner.setRoom(3, 0, 1);
        checks.dueThrow("p22 no room", UnsupportedOperationException.class,
                () -> planner.ask(0, 63, 20, 0, 1));
        checks.due("p22 reason 2", 2, planner.refusalReason());
        checks.due("p23 index 0", 0, planner.refusalDetail());
    }
}
