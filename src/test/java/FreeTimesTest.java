import java.util.Arrays;
import java.util.NoSuchElementException;

/** Promises 24 to 31; their bounds are in BoundsTest. */
public final class FreeTimesTest {
    private static final Class<NoSuchElementException> NO_SUCH = NoSuchElementException.class;

    private static final Checks checks = new Checks("FreeTimesTest");

    public static void main(String[] args) {
        freeAndMeetingOf();
        counts();
        oneDate();
        twoDates();
        firstCommon();
        firstCommonAtTheEnd();
        noTimesAcrossDays();
        firstCommonLooksForwardOnly();
        commonCount();
        roomFor();
        roomForWalkers();
        checks.end();
    }

    /** On day 4, person 0 has the times 2 to 4 and 9, and person 1 the times 2 to 4 and 15. */
    private static CalendaryPlanner aPlanner() {
        CalendaryPlanner planner = new CalendaryPlanner();
        planner.ask(0, 2, 4, 2, 3);
        planner.ask(0, 4, 4, 9, 1);
        planner.ask(1, 0, 4, 15, 1);
        return planner;
    }

    private static void freeAndMeetingOf() {
        CalendaryPlanner planner = aPlanner();
        boolean[] due = new boolean[16];
        Arrays.fill(due, true);
        due[2] = due[3] = due[4] = due[9] = false;
        for (int time = 0; time < 16; time++) {
            int at = time;
            checks.due("p24 free at " + at, due[at], planner.isFree(0, 4, at));
            if (due[at]) {
                checks.dueThrow("p25 at " + at, planner, NO_SUCH,
                        () -> planner.meetingOf(0, 4, at));
            } else {
                checks.due("p25 at " + at, at == 9 ? 1 : 0, planner.meetingOf(0, 4, at));
            }
        }
        checks.due("p24 another day", true, planner.isFree(0, 5, 3));
        checks.due("p24 another person", true, planner.isFree(5, 4, 3));
        planner.answer(0, 1, 'n');
        checks.due("p24 after no", true, planner.isFree(1, 4, 3));
        checks.dueThrow("p25 after no", planner, NO_SUCH, () -> planner.meetingOf(1, 4, 3));
        planner.cancel(1, 0);
        checks.due("p24 cancelled", true, planner.isFree(0, 4, 9));
        checks.dueThrow("p25 cancelled", planner, NO_SUCH, () -> planner.meetingOf(0, 4, 9));
    }

    private static void counts() {
        CalendaryPlanner planner = aPlanner();
        checks.due("p26 free times", 12, planner.freeTimes(0, 4));
        checks.due("p27 free times", 12, planner.freeByTrying(0, 4));
        checks.due("p28 longest, at the end", 6, planner.longestFree(0, 4));
        checks.due("p28 longest, in between", 10, planner.longestFree(1, 4));
        checks.due("p28 longest of a whole day", 16, planner.longestFree(0, 3));
        planner.move(1, 0, 4, 15);
        checks.due("p28 longest before the last time", 10, planner.longestFree(0, 4));
        planner.ask(3, 0, 8, 0, 6);
        planner.extend(3, 1, 2);
        planner.move(3, 1, 8, 10);
        checks.due("p26 at both ends", 4, planner.freeTimes(3, 8));
        checks.due("p27 at both ends", 4, planner.freeByTrying(3, 8));
        checks.due("p28 between both ends", 4, planner.longestFree(3, 8));
        planner.ask(3, 0, 8, 6, 4);
        checks.due("p26 none", 0, planner.freeTimes(3, 8));
        checks.due("p27 none", 0, planner.freeByTrying(3, 8));
        checks.due("p28 none", 0, planner.longestFree(3, 8));
        planner.ask(4, 0, 20, 0, 1);
        checks.due("p28 behind the first time", 15, planner.longestFree(4, 20));
        planner.cancel(0, 0);
        checks.due("p26 cancelled", 15, planner.freeTimes(1, 4));
        checks.due("p27 cancelled", 15, planner.freeByTrying(1, 4));
    }

    /** Every date that a day can have, with the times right before it and right behind it. */
    private static void oneDate() {
        for (int length = 1; length <= 6; length++) {
            for (int time = 0; time + length <= 16; time++) {
                CalendaryPlanner planner = new CalendaryPlanner();
                planner.ask(3, 4, 12, time, length);
                String what = "times " + time + " to " + (time + length - 1);
                for (int at = 0; at < 16; at++) {
                    boolean free = at < time || at >= time + length;
                    checks.due("p24 " + at + " by " + what, free, planner.isFree(2, 12, at));
                    checks.due("p25 " + at + " by " + what, free ? NO_SUCH : (Object) 0,
                            meetingOrNone(planner, 12, at));
                }
                checks.due("p26 " + what, 16 - length, planner.freeTimes(2, 12));
                checks.due("p27 " + what, 16 - length, planner.freeByTrying(2, 12));
                int behind = 16 - time - length;
                checks.due("p28 " + what, Math.max(time, behind), planner.longestFree(2, 12));
                for (int wanted = 1; wanted <= 6; wanted++) {
                    meetingBy(planner, what + " for " + wanted, time, behind, wanted);
                }
            }
        }
    }

    private static Object meetingOrNone(CalendaryPlanner planner, int day, int time) {
        return Checks.outcome(() -> planner.meetingOf(2, day, time));
    }

    /** Before the date and behind it there are the free times that are told. */
    private static void meetingBy(CalendaryPlanner planner, String what, int before, int behind,
            int wanted) {
        int count = Math.max(before - wanted + 1, 0) + Math.max(behind - wanted + 1, 0);
        checks.due("p30 " + what, count, planner.commonCount(4, wanted, 12));
        int first = before >= wanted ? 12 * 16
                : behind >= wanted ? 13 * 16 - behind : 13 * 16;
        checks.due("p29 " + what, first, planner.firstCommon(4, wanted, 12));
    }

    /** Two dates of one hour, in either order of asking, with any distance. */
    private static void twoDates() {
        for (int one = 0; one < 16; one++) {
            for (int other = 0; other < 16; other++) {
                if (one != other) {
                    CalendaryPlanner planner = new CalendaryPlanner();
                    planner.ask(1, 0, 27, one, 1);
                    planner.ask(1, 0, 27, other, 1);
                    int from = Math.min(one, other);
                    int to = Math.max(one, other);
                    int longest = Math.max(Math.max(from, to - from - 1), 15 - to);
                    String what = "times " + one + " and " + other;
                    checks.due("p26 " + what, 14, planner.freeTimes(1, 27));
                    checks.due("p27 " + what, 14, planner.freeByTrying(1, 27));
                    checks.due("p28 " + what, longest, planner.longestFree(1, 27));
                    checks.due("p25 " + what, 0, planner.meetingOf(1, 27, one));
                    checks.due("p25 " + what, 1, planner.meetingOf(1, 27, other));
                }
            }
        }
    }

    private static void firstCommon() {
        CalendaryPlanner planner = aPlanner();
        checks.due("p29 at once", 64, planner.firstCommon(1, 2, 4));
        checks.due("p29 behind a date", 64 + 5, planner.firstCommon(1, 3, 4));
        checks.due("p29 behind two dates", 64 + 10, planner.firstCommon(1, 5, 4));
        checks.due("p29 on the next day", 80, planner.firstCommon(3, 6, 4));
        checks.due("p29 others", 64, planner.firstCommon(32, 6, 4));
        checks.due("p29 an earlier day", 0, planner.firstCommon(63, 6, 0));
        planner.setRoom(3, 5, 1);
        checks.dueThrow("p29 no room", planner, NO_SUCH, () -> planner.firstCommon(63, 1, 0));
        checks.due("p29 asking plans nothing", 3, planner.meetingCount());
    }

    private static void firstCommonAtTheEnd() {
        CalendaryPlanner planner = new CalendaryPlanner();
        planner.ask(0, 0, 27, 0, 6);
        planner.ask(0, 0, 27, 6, 5);
        checks.due("p29 the last times", 27 * 16 + 11, planner.firstCommon(1, 5, 27));
        checks.dueThrow("p29 one too long", planner, NO_SUCH, () -> planner.firstCommon(1, 6, 27));
        checks.due("p29 a day before", 26 * 16, planner.firstCommon(1, 6, 26));
    }

    /** The last times of a day and the first of the next are no times that follow one another. */
    private static void noTimesAcrossDays() {
        CalendaryPlanner planner = new CalendaryPlanner();
        for (int part = 0; part < 2; part++) {
            planner.ask(0, 0, 25, 3 + 5 * part, 5);
            planner.extend(part, 1, 2);
        }
        checks.due("p28 the first or the last three", 3, planner.longestFree(0, 25));
        checks.due("p29 the first three", 25 * 16, planner.firstCommon(1, 3, 25));
        checks.dueThrow("p29 no four", planner, NO_SUCH, () -> planner.firstCommon(1, 4, 25));
        checks.due("p30 the first three and the last three", 2, planner.commonCount(1, 3, 25));
        checks.due("p30 no four", 0, planner.commonCount(1, 4, 25));
    }

    private static void firstCommonLooksForwardOnly() {
        CalendaryPlanner planner = new CalendaryPlanner();
        for (int part = 0; part < 3; part++) {
            planner.ask(0, 2, 22, 5 * part, part == 2 ? 6 : 5);
            planner.extend(part, 1, 5);
        }
        for (int day = 0; day < 22; day++) {
            checks.due("p29 from day " + day, 16 * day, planner.firstCommon(3, 6, day));
        }
        for (int day = 22; day < 28; day++) {
            int from = day;
            checks.dueThrow("p29 from day " + day, planner, NO_SUCH,
                    () -> planner.firstCommon(2, 1, from));
            checks.due("p29 others from day " + day, 16 * day, planner.firstCommon(60, 6, day));
            checks.dueThrow("p29 others and one from day " + day, planner, NO_SUCH,
                    () -> planner.firstCommon(61, 1, from));
        }
        planner.answer(2, 1, 'n');
        checks.due("p29 after no", 22 * 16 + 10, planner.firstCommon(2, 6, 22));
        planner.cancel(0, 4);
        checks.due("p29 a cancelled date", 26 * 16, planner.firstCommon(1, 5, 22));
    }

    private static void commonCount() {
        CalendaryPlanner planner = aPlanner();
        checks.due("p30 a whole day", 16, planner.commonCount(63, 1, 0));
        checks.due("p30 a whole day for six", 11, planner.commonCount(63, 6, 0));
        checks.due("p30 length 1", 12, planner.commonCount(1, 1, 4));
        checks.due("p30 length 5", 2, planner.commonCount(1, 5, 4));
        checks.due("p30 length 6", 1, planner.commonCount(1, 6, 4));
        checks.due("p30 of both", 3, planner.commonCount(3, 4, 4));
        checks.due("p30 of both, longer", 1, planner.commonCount(3, 5, 4));
        checks.due("p30 of both, too long", 0, planner.commonCount(3, 6, 4));
        planner.setRoom(3, 5, 1);
        checks.due("p30 no room", 0, planner.commonCount(63, 1, 0));
    }

    private static void roomFor() {
        CalendaryPlanner planner = aPlanner();
        int[] due = {0, 0, 1, 2, 3, 3};
        for (int people = 1; people <= 6; people++) {
            checks.due("p31 room for " + people, due[people - 1],
                    planner.roomFor((1 << people) - 1, 6, 9, 10));
        }
        checks.dueThrow("p31 not free", planner, NO_SUCH, () -> planner.roomFor(1, 1, 4, 4));
        checks.dueThrow("p31 not free at the end", planner, NO_SUCH,
                () -> planner.roomFor(1, 2, 4, 1));
        checks.due("p31 the room is taken", 1, planner.roomFor(32, 1, 4, 4));
        checks.due("p31 the room is free again", 0, planner.roomFor(32, 1, 4, 5));
        planner.setRoom(3, 5, 1);
        checks.dueThrow("p31 no seats", planner, NO_SUCH, () -> planner.roomFor(63, 1, 9, 0));
    }

    private static void roomForWalkers() {
        CalendaryPlanner planner = aPlanner();
        planner.setGap(3);
        checks.due("p31 the same house", 1, planner.roomFor(1 | 8 | 16, 1, 4, 5));
        checks.dueThrow("p31 no time to walk there", planner, NO_SUCH,
                () -> planner.roomFor(15, 1, 4, 7));
        checks.dueThrow("p31 one time too few to walk", planner, NO_SUCH,
                () -> planner.roomFor(29, 1, 4, 12));
        checks.due("p31 time enough to walk", 2, planner.roomFor(29, 1, 4, 13));
        checks.dueThrow("p31 no time to walk back", planner, NO_SUCH,
                () -> planner.roomFor(1 | 56, 1, 4, 1));
        checks.due("p31 nobody walks", 2, planner.roomFor(60, 1, 4, 3));
        checks.due("p30 walks before a late date", 0, planner.commonCount(15, 1, 4));
        checks.due("p30 walks behind the last date", 2, planner.commonCount(29, 2, 4));
        checks.due("p29 walks behind the last date", 64 + 13, planner.firstCommon(29, 1, 4));
    }
}
