import java.util.NoSuchElementException;

/** All promises: on a planner with nothing in it yet, and on one with all that can be in it. */
public final class EmptyAndFullTest {
    private static final Class<NoSuchElementException> NO_SUCH = NoSuchElementException.class;
    private static final Class<IllegalStateException> STATE = IllegalStateException.class;
    private static final Class<ArithmeticException> ARITHMETIC = ArithmeticException.class;

    private static final Checks checks = new Checks("EmptyAndFullTest");

    public static void main(String[] args) {
        CalendaryPlanner empty = new CalendaryPlanner();
        noMeetings(empty);
        nothingRefused(empty);
        everybodyFree(empty);
        everyoneCanMeet(empty);
        CalendaryPlanner emptied = full(2);
        for (int meeting = 0; meeting < 8; meeting++) {
            checks.due("p8 left behind " + meeting, 7 - meeting, emptied.remove(meeting));
        }
        noMeetings(emptied);
        everybodyFree(emptied);
        everyoneCanMeet(emptied);
        fullOfMeetings();
        fullOfLongMeetings();
        nobodyFree();
        allDatesCancelled();
        as512Calls();
        checks.end();
    }

    /** Eight meetings of all six people with six dates each, on the days 0 to 5. */
    private static CalendaryPlanner full(int length) {
        CalendaryPlanner planner = new CalendaryPlanner();
        for (int meeting = 0; meeting < 8; meeting++) {
            planner.ask(meeting % 6, 63, 0, length * meeting, length);
            planner.extend(meeting, 1, 5);
        }
        return planner;
    }

    private static void noMeetings(CalendaryPlanner planner) {
        checks.due("p12 none", 0, planner.meetingCount());
        checks.dueThrow("p13 none", planner, NO_SUCH, () -> planner.meetingAt(0));
        for (int meeting = 0; meeting < 8; meeting++) {
            int none = meeting;
            checks.dueThrow("p7 none", planner, NO_SUCH, () -> planner.extend(none, 1, 1));
            checks.dueThrow("p8 none", planner, NO_SUCH, () -> planner.remove(none));
            checks.dueThrow("p9 none", planner, NO_SUCH, () -> planner.answer(none, 1, 'y'));
            checks.dueThrow("p10 none", planner, NO_SUCH, () -> planner.cancel(none, 0));
            checks.dueThrow("p11 none", planner, NO_SUCH, () -> planner.move(none, 0, 0, 0));
            checks.dueThrow("p14 none", planner, NO_SUCH, () -> planner.hostOf(none));
            checks.dueThrow("p15 none", planner, NO_SUCH, () -> planner.answerOf(none, 0));
            checks.dueThrow("p16 none", planner, NO_SUCH, () -> planner.expected(none));
            checks.dueThrow("p17 none", planner, NO_SUCH, () -> planner.dateCount(none));
            checks.dueThrow("p18 none", planner, NO_SUCH, () -> planner.dayOf(none, 0));
            checks.dueThrow("p19 none", planner, NO_SUCH, () -> planner.timeOf(none, 0));
            checks.dueThrow("p20 none", planner, NO_SUCH, () -> planner.isCancelled(none, 0));
            checks.dueThrow("p21 none", planner, NO_SUCH, () -> planner.roomOf(none, 0));
        }
        checks.due("p34 none", 0L, planner.sittings());
        checks.dueThrow("p35 none", planner, ARITHMETIC, planner::meanExpected);
        checks.dueThrow("p36 none", planner, ARITHMETIC, planner::yesShare);
        checks.due("p37 none", true, planner.isConsistent());
    }

    private static void nothingRefused(CalendaryPlanner planner) {
        checks.dueThrow("p22 nothing", planner, NO_SUCH, planner::refusalReason);
        checks.dueThrow("p23 nothing", planner, NO_SUCH, planner::refusalDetail);
    }

    private static void everybodyFree(CalendaryPlanner planner) {
        for (int day = 0; day < 28; day++) {
            for (int person = 0; person < 6; person++) {
                String what = "empty, person " + person + ", day " + day;
                for (int time = 0; time < 16; time++) {
                    checks.due("p24 " + what, true, planner.isFree(person, day, time));
                    checks.due("p25 " + what, NO_SUCH, meetingOf(planner, person, day, time));
                }
                checks.due("p26 " + what, 16, planner.freeTimes(person, day));
                checks.due("p27 " + what, 16, planner.freeByTrying(person, day));
                checks.due("p28 " + what, 16, planner.longestFree(person, day));
                checks.due("p33 " + what, 0, planner.walks(person, day));
            }
            for (int room = 0; room < 4; room++) {
                checks.due("p32 empty, room " + room, 0, planner.usedTimes(room, day));
            }
        }
    }

    private static Object meetingOf(CalendaryPlanner planner, int person, int day, int time) {
        return Checks.outcome(() -> planner.meetingOf(person, day, time));
    }

    /** One or two people get room 0, and three to six the rooms 1, 2, 3 and 3. */
    private static void everyoneCanMeet(CalendaryPlanner planner) {
        int[] rooms = {0, 0, 0, 1, 2, 3, 3};
        for (int people = 1; people < 64; people++) {
            for (int length = 1; length <= 6; length++) {
                String what = "empty, people " + people + ", length " + length;
                checks.due("p29 " + what, 0, planner.firstCommon(people, length, 0));
                checks.due("p29 " + what, 27 * 16, planner.firstCommon(people, length, 27));
                checks.due("p30 " + what, 17 - length, planner.commonCount(people, length, 27));
                checks.due("p31 " + what, rooms[Integer.bitCount(people)],
                        planner.roomFor(people, length, 27, 16 - length));
            }
        }
    }

    /** The dates leave no time of the days 0 to 5 free, nor one to walk: all are in room 3. */
    private static void fullOfMeetings() {
        CalendaryPlanner planner = full(2);
        checks.due("p12 full", 8, planner.meetingCount());
        for (int meeting = 0; meeting < 8; meeting++) {
            int each = meeting;
            checks.due("p13 full", meeting, planner.meetingAt(meeting));
            checks.due("p16 full", 6, planner.expected(meeting));
            checks.due("p17 full", 6, planner.dateCount(meeting));
            checks.due("p21 full", 3, planner.roomOf(meeting, 5));
            checks.dueThrow("p7 full", planner, STATE, () -> planner.extend(each, 1, 1));
        }
        checks.dueThrow("p6 full", planner, STATE, () -> planner.ask(0, 0, 20, 0, 1));
        nothingRefused(planner);
        for (int day = 0; day < 6; day++) {
            fullDay(planner, day);
        }
        checks.due("p29 full up to day 5", 6 * 16, planner.firstCommon(1, 1, 0));
        checks.due("p34 full", 8L * 6 * 2 * 6, planner.sittings());
        checks.due("p35 full", 6.0, planner.meanExpected());
        checks.dueThrow("p36 full, all open", planner, ARITHMETIC, planner::yesShare);
        checks.due("p37 full", true, planner.isConsistent());
    }

    private static void fullDay(CalendaryPlanner planner, int day) {
        for (int person = 0; person < 6; person++) {
            checks.due("p25 first time", 0, planner.meetingOf(person, day, 0));
            checks.due("p25 last time", 7, planner.meetingOf(person, day, 15));
            checks.due("p24 first time", false, planner.isFree(person, day, 0));
            checks.due("p24 last time", false, planner.isFree(person, day, 15));
            checks.due("p26 none", 0, planner.freeTimes(person, day));
            checks.due("p27 none", 0, planner.freeByTrying(person, day));
            checks.due("p28 none", 0, planner.longestFree(person, day));
            checks.due("p30 none", 0, planner.commonCount(1 << person, 1, day));
            checks.due("p33 all in one room", 0, planner.walks(person, day));
        }
        checks.due("p32 all times", 16, planner.usedTimes(3, day));
        checks.due("p32 no time", 0, planner.usedTimes(2, day));
    }

    private static void fullOfLongMeetings() {
        CalendaryPlanner planner = new CalendaryPlanner();
        for (int meeting = 0; meeting < 8; meeting++) {
            planner.ask(0, 62, 6 * (meeting / 2), 10 * (meeting % 2), 6);
            planner.extend(meeting, 1, 5);
            for (int person = 1; person < 6; person++) {
                planner.answer(meeting, person, 'y');
            }
        }
        checks.due("p34 the most", 8L * 6 * 6 * 6, planner.sittings());
        checks.due("p36 forty yes", 1.0f, planner.yesShare());
        checks.due("p28 between the two", 4, planner.longestFree(0, 23));
        for (int meeting = 0; meeting < 8; meeting++) {
            for (int person = 1; person < 6; person++) {
                planner.answer(meeting, person, 'n');
            }
        }
        checks.due("p34 the hosts alone", 8L * 6 * 6, planner.sittings());
        checks.due("p35 the hosts alone", 1.0, planner.meanExpected());
        checks.due("p36 forty no", 0.0f, planner.yesShare());
        checks.due("p37 after forty no", true, planner.isConsistent());
    }

    /** Person 0 has no free time on the days from 23 on, which are the last five. */
    private static void nobodyFree() {
        CalendaryPlanner planner = new CalendaryPlanner();
        for (int part = 0; part < 3; part++) {
            planner.ask(0, 0, 23, part * 5, part == 2 ? 6 : 5);
            planner.extend(part, 1, 4);
        }
        for (int day = 23; day < 28; day++) {
            int from = day;
            checks.dueThrow("p29 none up to day 27", planner, NO_SUCH,
                    () -> planner.firstCommon(1, 1, from));
        }
        checks.due("p29 day 22", 22 * 16, planner.firstCommon(1, 1, 22));
        planner.cancel(2, 4);
        checks.due("p29 the last times of all", 27 * 16 + 10, planner.firstCommon(1, 6, 23));
        checks.dueThrow("p31 before the last times", planner, NO_SUCH,
                () -> planner.roomFor(1, 6, 27, 9));
        checks.due("p31 the last times of all", 0, planner.roomFor(1, 6, 27, 10));
    }

    /** A meeting whose dates are all cancelled stays until it is removed. */
    private static void allDatesCancelled() {
        CalendaryPlanner planner = full(2);
        for (int meeting = 0; meeting < 8; meeting++) {
            for (int date = 0; date < 6; date++) {
                checks.due("p10 left of " + meeting, 5 - date, planner.cancel(meeting, date));
            }
        }
        checks.due("p12 they stay", 8, planner.meetingCount());
        checks.due("p17 their dates stay", 6, planner.dateCount(7));
        checks.due("p18 their days stay", 5, planner.dayOf(7, 5));
        checks.due("p19 their times stay", 14, planner.timeOf(7, 5));
        checks.due("p35 they count", 6.0, planner.meanExpected());
        checks.due("p34 they have no sittings", 0L, planner.sittings());
        checks.dueThrow("p6 still full", planner, STATE, () -> planner.ask(0, 0, 20, 0, 1));
        checks.dueThrow("p7 still six dates", planner, STATE, () -> planner.extend(0, 1, 1));
        everybodyFree(planner);
        everyoneCanMeet(planner);
        checks.due("p8 removed", 7, planner.remove(0));
        checks.dueThrow("p8 removed", planner, NO_SUCH, () -> planner.dateCount(0));
        checks.due("p6 a place for one", 8, planner.ask(0, 0, 20, 0, 1));
        checks.dueThrow("p6 full again", planner, STATE, () -> planner.ask(0, 0, 21, 0, 1));
    }

    /** Numbers are never used again, up to the last call for which an object is used. */
    private static void as512Calls() {
        CalendaryPlanner planner = new CalendaryPlanner();
        for (int meeting = 0; meeting < 256; meeting++) {
            checks.due("p6 the next number", meeting, planner.ask(5, 31, 27, 10, 6));
            checks.due("p8 none left", 0, planner.remove(meeting));
        }
    }
}
