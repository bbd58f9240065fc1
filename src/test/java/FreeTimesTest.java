import java.util.Arrays;
import java.util.NoSuchElementException;

/** Promises 24 to 31. */
public final class FreeTimesTest {
    private static final Class<NoSuchElementException> NO_SUCH = NoSuchElementException.class;
    private static final Class<IllegalArgumentException> ILLEGAL = IllegalArgumentException.class;
    private static final int[] NO_PEOPLE = {-1, 0, 64, Integer.MIN_VALUE, Integer.MAX_VALUE};
    private static final int[] NO_LENGTH = {-1, 0, 7, Integer.MIN_VALUE, Integer.MAX_VALUE};
    private static final int[] NO_PERSON = {-1, 6, 32, Integer.MIN_VALUE, Integer.MAX_VALUE};
    private static final int[] NO_DAY = {-1, 28, Integer.MIN_VALUE, Integer.MAX_VALUE};
    private static final int[] NO_TIME = {-1, 16, Integer.MIN_VALUE, Integer.MAX_VALUE};

    private static final Checks checks = new Checks("FreeTimesTest");

    public static void main(String[] args) {
        freeAndMeetingOf();
        counts();
        wrongPersonDayAndTime();
        firstCommon();
        firstCommonAtTheEnd();
        commonCount();
        roomFor();
        roomForWalkers();
        wrongPeopleAndLength();
        checks.end();
    }

    /** On day 4, person 0 has the times 2 to 4 and 9, and person 1 the times 2 to 4 and 15. */
    private static CalendaryPlanner aPlanner() {
        CalendaryPlanner planner = new CalendaryPlanner();
        planner.ask(0, 2, 4, 2, 3);
        planner.ask(0, 4, 4, 9, 1);
        planner.ask(1, 0, 4, 15, 1);
        return planner;
    }

    private static void freeAndMeetingOf() {
        CalendaryPlanner planner = aPlanner();
        boolean[] due = new boolean[16];
        Arrays.fill(due, true);
        due[2] = due[3] = due[4] = due[9] = false;
        for (int time = 0; time < 16; time++) {
            int at = time;
            checks.due("p24 free at " + at, due[at], planner.isFree(0, 4, at));
            if (due[at]) {
                checks.dueThrow("p25 at " + at, NO_SUCH, () -> planner.meetingOf(0, 4, at));
            } else {
                checks.due("p25 at " + at, at == 9 ? 1 : 0, planner.meetingOf(0, 4, at));
            }
        }
        checks.due("p24 another day", true, planner.isFree(0, 5, 3));
        checks.due("p24 another person", true, planner.isFree(5, 4, 3));
        planner.answer(0, 1, 'n');
        checks.due("p24 after no", true, planner.isFree(1, 4, 3));
        checks.dueThrow("p25 after no", NO_SUCH, () -> planner.meetingOf(1, 4, 3));
        planner.cancel(1, 0);
        checks.due("p24 cancelled", true, planner.isFree(0, 4, 9));
        checks.dueThrow("p25 cancelled", NO_SUCH, () -> planner.meetingOf(0, 4, 9));
    }

    private static void counts() {
        CalendaryPlanner planner = aPlanner();
        checks.due("p26 free times", 12, planner.freeTimes(0, 4));
        checks.due("p27 free times", 12, planner.freeByTrying(0, 4));
        checks.due("p28 longest, at the end", 6, planner.longestFree(0, 4));
        checks.due("p28 longest, in between", 10, planner.longestFree(1, 4));
        checks.due("p28 longest of a whole day", 16, planner.longestFree(0, 3));
        planner.move(1, 0, 4, 15);
        checks.due("p28 longest before the last time", 10, planner.longestFree(0, 4));
        planner.ask(3, 0, 8, 0, 6);
        planner.extend(3, 1, 2);
        planner.move(3, 1, 8, 10);
        checks.due("p26 at both ends", 4, planner.freeTimes(3, 8));
        checks.due("p27 at both ends", 4, planner.freeByTrying(3, 8));
        checks.due("p28 between both ends", 4, planner.longestFree(3, 8));
        planner.ask(3, 0, 8, 6, 4);
        checks.due("p26 none", 0, planner.freeTimes(3, 8));
        checks.due("p27 none", 0, planner.freeByTrying(3, 8));
        checks.due("p28 none", 0, planner.longestFree(3, 8));
        planner.ask(4, 0, 20, 0, 1);
        checks.due("p28 behind the first time", 15, planner.longestFree(4, 20));
        planner.cancel(0, 0);
        checks.due("p26 cancelled", 15, planner.freeTimes(1, 4));
        checks.due("p27 cancelled", 15, planner.freeByTrying(1, 4));
    }

    private static void wrongPersonDayAndTime() {
        CalendaryPlanner planner = aPlanner();
        for (int person : NO_PERSON) {
            checks.dueThrow("p24 " + person, ILLEGAL, () -> planner.isFree(person, 4, 0));
            checks.dueThrow("p25 " + person, ILLEGAL, () -> planner.meetingOf(person, 4, 0));
            checks.dueThrow("p26 " + person, ILLEGAL, () -> planner.freeTimes(person, 4));
            checks.dueThrow("p27 " + person, ILLEGAL, () -> planner.freeByTrying(person, 4));
            checks.dueThrow("p28 " + person, ILLEGAL, () -> planner.longestFree(person, 4));
        }
        for (int day : NO_DAY) {
            checks.dueThrow("p24 day " + day, ILLEGAL, () -> planner.isFree(0, day, 0));
            checks.dueThrow("p25 day " + day, ILLEGAL, () -> planner.meetingOf(0, day, 0));
            checks.dueThrow("p26 day " + day, ILLEGAL, () -> planner.freeTimes(0, day));
            checks.dueThrow("p27 day " + day, ILLEGAL, () -> planner.freeByTrying(0, day));
            checks.dueThrow("p28 day " + day, ILLEGAL, () -> planner.longestFree(0, day));
            checks.dueThrow("p29 day " + day, ILLEGAL, () -> planner.firstCommon(1, 1, day));
            checks.dueThrow("p30 day " + day, ILLEGAL, () -> planner.commonCount(1, 1, day));
            checks.dueThrow("p31 day " + day, ILLEGAL, () -> planner.roomFor(1, 1, day, 0));
        }
        for (int time : NO_TIME) {
            checks.dueThrow("p24 time " + time, ILLEGAL, () -> planner.isFree(0, 4, time));
            checks.dueThrow("p25 time " + time, ILLEGAL, () -> planner.meetingOf(0, 4, time));
            checks.dueThrow("p31 time " + time, ILLEGAL, () -> planner.roomFor(1, 1, 4, time));
        }
    }

    private static void firstCommon() {
        CalendaryPlanner planner = aPlanner();
        checks.due("p29 at once", 64, planner.firstCommon(1, 2, 4));
        checks.due("p29 behind a date", 64 + 5, planner.firstCommon(1, 3, 4));
        checks.due("p29 behind two dates", 64 + 10, planner.firstCommon(1, 5, 4));
        checks.due("p29 on the next day", 80, planner.firstCommon(3, 6, 4));
        checks.due("p29 others", 64, planner.firstCommon(32, 6, 4));
        checks.due("p29 an earlier day", 0, planner.firstCommon(63, 6, 0));
        planner.setRoom(3, 5, 1);
        checks.dueThrow("p29 no room", NO_SUCH, () -> planner.firstCommon(63, 1, 0));
        checks.due("p29 asking plans nothing", 3, planner.meetingCount());
    }

    private static void firstCommonAtTheEnd() {
        CalendaryPlanner planner = new CalendaryPlanner();
        planner.ask(0, 0, 27, 0, 6);
        planner.ask(0, 0, 27, 6, 5);
        checks.due("p29 the last times", 27 * 16 + 11, planner.firstCommon(1, 5, 27));
        checks.dueThrow("p29 one too long", NO_SUCH, () -> planner.firstCommon(1, 6, 27));
        checks.due("p29 a day before", 26 * 16, planner.firstCommon(1, 6, 26));
    }

    private static void commonCount() {
        CalendaryPlanner planner = aPlanner();
        checks.due("p30 a whole day", 16, planner.commonCount(63, 1, 0));
        checks.due("p30 a whole day for six", 11, planner.commonCount(63, 6, 0));
        checks.due("p30 length 1", 12, planner.commonCount(1, 1, 4));
        checks.due("p30 length 5", 2, planner.commonCount(1, 5, 4));
        checks.due("p30 length 6", 1, planner.commonCount(1, 6, 4));
        checks.due("p30 of both", 3, planner.commonCount(3, 4, 4));
        checks.due("p30 of both, longer", 1, planner.commonCount(3, 5, 4));
        checks.due("p30 of both, too long", 0, planner.commonCount(3, 6, 4));
        planner.setRoom(3, 5, 1);
        checks.due("p30 no room", 0, planner.commonCount(63, 1, 0));
    }

    private static void roomFor() {
        CalendaryPlanner planner = aPlanner();
        int[] due = {0, 0, 1, 2, 3, 3};
        for (int people = 1; people <= 6; people++) {
            checks.due("p31 room for " + people, due[people - 1],
                    planner.roomFor((1 << people) - 1, 6, 9, 10));
        }
        checks.dueThrow("p31 not free", NO_SUCH, () -> planner.roomFor(1, 1, 4, 4));
        checks.dueThrow("p31 not free at the end", NO_SUCH, () -> planner.roomFor(1, 2, 4, 1));
        checks.due("p31 the room is taken", 1, planner.roomFor(32, 1, 4, 4));
        checks.due("p31 the room is free again", 0, planner.roomFor(32, 1, 4, 5));
        checks.dueThrow("p31 not on the day", ILLEGAL, () -> planner.roomFor(1, 2, 4, 15));
        checks.dueThrow("p31 not on the day 2", ILLEGAL, () -> planner.roomFor(1, 6, 4, 11));
        planner.setRoom(3, 5, 1);
        checks.dueThrow("p31 no seats", NO_SUCH, () -> planner.roomFor(63, 1, 9, 0));
    }

    private static void roomForWalkers() {
        CalendaryPlanner planner = aPlanner();
        planner.setGap(3);
        checks.due("p31 the same house", 1, planner.roomFor(1 | 8 | 16, 1, 4, 5));
        checks.dueThrow("p31 no time to walk there", NO_SUCH,
                () -> planner.roomFor(15, 1, 4, 7));
        checks.dueThrow("p31 one time too few to walk", NO_SUCH,
                () -> planner.roomFor(29, 1, 4, 12));
        checks.due("p31 time enough to walk", 2, planner.roomFor(29, 1, 4, 13));
        checks.dueThrow("p31 no time to walk back", NO_SUCH, () -> planner.roomFor(1 | 56, 1, 4, 1));
        checks.due("p31 nobody walks", 2, planner.roomFor(60, 1, 4, 3));
        checks.due("p30 walks before a late date", 0, planner.commonCount(15, 1, 4));
        checks.due("p30 walks behind the last date", 2, planner.commonCount(29, 2, 4));
        checks.due("p29 walks behind the last date", 64 + 13, planner.firstCommon(29, 1, 4));
    }

    private static void wrongPeopleAndLength() {
        CalendaryPlanner planner = aPlanner();
        for (int people : NO_PEOPLE) {
            checks.dueThrow("p29 " + people, ILLEGAL, () -> planner.firstCommon(people, 1, 0));
            checks.dueThrow("p30 " + people, ILLEGAL, () -> planner.commonCount(people, 1, 0));
            checks.dueThrow("p31 " + people, ILLEGAL, () -> planner.roomFor(people, 1, 0, 0));
        }
        for (int length : NO_LENGTH) {
            checks.dueThrow("p29 long " + length, ILLEGAL, () -> planner.firstCommon(1, length, 0));
            checks.dueThrow("p30 long " + length, ILLEGAL, () -> planner.commonCount(1, length, 0));
            checks.dueThrow("p31 long " + length, ILLEGAL, () -> planner.roomFor(1, length, 0, 0));
        }
    }
}
