import java.util.NoSuchElementException;

/** Promises 12 to 23: what is asked about meetings, dates and refusals. */
public final class MeetingsTest {
    private static final Class<NoSuchElementException> NO_SUCH = NoSuchElementException.class;
    private static final Class<IllegalStateException> STATE = IllegalStateException.class;

    private static final Checks checks = new Checks("MeetingsTest");

    public static void main(String[] args) {
        countAndRanks();
        ranksOfEight();
        hostAndAnswers();
        everyHostAndOthers();
        expected();
        dates();
        refusals();
        checks.end();
    }

    /** Meeting 0 is gone; meeting 1 has the host 5, the people 0 and 3, and three dates. */
    private static CalendaryPlanner aPlanner() {
        CalendaryPlanner planner = new CalendaryPlanner();
        planner.ask(0, 0, 0, 0, 1);
        planner.ask(5, 1 | 8, 2, 9, 2);
        planner.extend(1, 3, 2);
        planner.remove(0);
        planner.cancel(1, 1);
        return planner;
    }

    private static void countAndRanks() {
        CalendaryPlanner planner = aPlanner();
        checks.due("p12 one", 1, planner.meetingCount());
        checks.due("p13 rank 0", 1, planner.meetingAt(0));
        planner.ask(0, 0, 10, 0, 1);
        planner.ask(0, 0, 11, 0, 1);
        planner.remove(2);
        checks.due("p12 two", 2, planner.meetingCount());
        checks.due("p13 rank 0 of two", 1, planner.meetingAt(0));
        checks.due("p13 rank 1 of two", 3, planner.meetingAt(1));
    }

    /** Whichever of eight meetings is removed, the others keep their order. */
    private static void ranksOfEight() {
        for (int removed = 0; removed < 8; removed++) {
            CalendaryPlanner planner = new CalendaryPlanner();
            for (int day = 0; day < 8; day++) {
                planner.ask(0, 0, day, 0, 1);
            }
            checks.due("p8 left without " + removed, 7, planner.remove(removed));
            checks.due("p12 without " + removed, 7, planner.meetingCount());
            for (int rank = 0; rank < 7; rank++) {
                int due = rank < removed ? rank : rank + 1;
                checks.due("p13 rank " + rank + " without " + removed, due,
                        planner.meetingAt(rank));
            }
            checks.dueThrow("p13 rank 7 without " + removed, planner, NO_SUCH,
                    () -> planner.meetingAt(7));
            planner.ask(0, 0, 20, 0, 1);
            checks.due("p13 a new one is the last", 8, planner.meetingAt(7));
        }
    }

    /** The host does not count among the others, whose answers are open at first. */
    private static void everyHostAndOthers() {
        CalendaryPlanner planner = new CalendaryPlanner();
        for (int host = 0; host < 6; host++) {
            for (int others = 0; others < 64; others++) {
                String what = "host " + host + ", others " + others;
                int meeting = planner.ask(host, others, 27, 0, 1);
                checks.due("p14 " + what, host, planner.hostOf(meeting));
                checks.due("p16 " + what, Integer.bitCount(others | 1 << host),
                        planner.expected(meeting));
                for (int person = 0; person < 6; person++) {
                    char due = person == host ? 'h' : (others >> person) % 2 == 1 ? 'o' : '-';
                    checks.due("p15 " + what, due, planner.answerOf(meeting, person));
                }
                planner.remove(meeting);
            }
        }
    }

    private static void hostAndAnswers() {
        CalendaryPlanner planner = aPlanner();
        checks.due("p14 host", 5, planner.hostOf(1));
        planner.answer(1, 0, 'y');
        planner.answer(1, 3, 'n');
        char[] due = {'y', '-', '-', 'n', '-', 'h'};
        for (int person = 0; person < 6; person++) {
            checks.due("p15 answer of " + person, due[person], planner.answerOf(1, person));
        }
        planner.answer(1, 0, 'o');
        checks.due("p15 open", 'o', planner.answerOf(1, 0));
    }

    private static void expected() {
        CalendaryPlanner planner = aPlanner();
        checks.due("p16 open ones are expected", 3, planner.expected(1));
        planner.answer(1, 0, 'y');
        checks.due("p16 yes", 3, planner.expected(1));
        planner.answer(1, 3, 'n');
        checks.due("p16 no", 2, planner.expected(1));
        planner.answer(1, 0, 'n');
        checks.due("p16 the host alone", 1, planner.expected(1));
    }

    private static void dates() {
        CalendaryPlanner planner = aPlanner();
        checks.due("p17 cancelled ones included", 3, planner.dateCount(1));
        checks.due("p18 day of date 0", 2, planner.dayOf(1, 0));
        checks.due("p18 day of a cancelled date", 5, planner.dayOf(1, 1));
        checks.due("p18 day of the last date", 8, planner.dayOf(1, 2));
        checks.due("p19 time", 9, planner.timeOf(1, 0));
        checks.due("p19 time of a cancelled date", 9, planner.timeOf(1, 1));
        planner.move(1, 2, 8, 3);
        checks.due("p19 time of a moved date", 3, planner.timeOf(1, 2));
        checks.due("p20 not cancelled", false, planner.isCancelled(1, 0));
        checks.due("p20 cancelled", true, planner.isCancelled(1, 1));
        checks.due("p21 room", 1, planner.roomOf(1, 0));
        checks.dueThrow("p21 cancelled", planner, STATE, () -> planner.roomOf(1, 1));
        planner.answer(1, 0, 'n');
        checks.due("p21 it keeps its room", 1, planner.roomOf(1, 0));
        planner.move(1, 0, 2, 9);
        checks.due("p21 until it is moved", 0, planner.roomOf(1, 0));
    }

    /** What each refusal tells is in RefusalsTest. */
    private static void refusals() {
        CalendaryPlanner planner = aPlanner();
        checks.dueThrow("p22 nothing refused", planner, NO_SUCH, planner::refusalReason);
        checks.dueThrow("p23 nothing refused", planner, NO_SUCH, planner::refusalDetail);
        checks.dueRefusal("p22 busy", planner, 1, 3, () -> planner.ask(3, 0, 2, 10, 1));
        checks.due("p22 reason", 1, planner.refusalReason());
        checks.due("p22 the same again", 1, planner.refusalReason());
        checks.due("p23 detail", 3, planner.refusalDetail());
        checks.due("p23 the same again", 3, planner.refusalDetail());
        planner.setRoom(3, 0, 1);
        checks.dueRefusal("p22 no room", planner, 2, 0, () -> planner.ask(0, 63, 20, 0, 1));
    }
}
