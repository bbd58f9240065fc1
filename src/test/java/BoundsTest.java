import java.util.NoSuchElementException;
import java.util.function.Supplier;

/**
 * All promises: for each number that a call takes, every one that is allowed, the first below and
 * above them, and numbers from which a wrap-around of a narrower type would make an allowed one.
 */
public final class BoundsTest {
    private static final Class<NoSuchElementException> NO_SUCH = NoSuchElementException.class;
    private static final Class<IllegalArgumentException> ILLEGAL = IllegalArgumentException.class;
    private static final Class<IllegalStateException> STATE = IllegalStateException.class;
    private static final Class<IndexOutOfBoundsException> INDEX = IndexOutOfBoundsException.class;

    private static final int[] FAR_OFF = {
        Integer.MIN_VALUE, Integer.MAX_VALUE, -32, -64, -256, -65536, 32, 64, 256, 65536, 1 << 30
    };
    private static final int[] MEETINGS = {1, 3};
    private static final int[] NO_MEETINGS = {
        0, 2, 4, -1, 5, 8, 257, 259, 65537, Integer.MIN_VALUE, Integer.MIN_VALUE + 1,
        Integer.MAX_VALUE
    };

    private static final Checks checks = new Checks("BoundsTest");

    /** A call in which one number is free. */
    private interface Call {
        Object on(CalendaryPlanner planner, int number);
    }

    public static void main(String[] args) {
        rooms();
        ask();
        timesOfADay();
        extendByDaysAndDates();
        extendUpToTheLastDay();
        extendUpToSixDates();
        answer();
        changedDates();
        move();
        meetingsAndPeople();
        shownDates();
        freeTimes();
        commonTimes();
        days();
        checks.end();
    }

    /**
     * The meetings 1, of three dates and the host 5, and 3, of one date, for whose host nobody else
     * was asked: so numbers, ranks and indices differ. Something was refused before.
     */
    private static CalendaryPlanner aPlanner() {
        CalendaryPlanner planner = new CalendaryPlanner();
        planner.ask(0, 0, 0, 0, 1);
        planner.ask(5, 31, 2, 9, 2);
        planner.extend(1, 3, 2);
        planner.ask(0, 0, 0, 1, 1);
        planner.ask(4, 0, 1, 15, 1);
        planner.remove(0);
        planner.remove(2);
        Checks.outcome(() -> planner.ask(3, 0, 2, 10, 1));
        return planner;
    }

    private static CalendaryPlanner withMeeting4(int length) {
        CalendaryPlanner planner = aPlanner();
        planner.ask(0, 0, 20, 0, length);
        return planner;
    }

    private static void allowed(String what, CalendaryPlanner planner, int number, Call call) {
        Object got = Checks.outcome(() -> call.on(planner, number));
        boolean answered = got instanceof Integer || got instanceof Character
                || got instanceof Boolean;
        checks.due(what + " " + number + " is allowed: " + got, true, answered);
    }

    private static void ruledOut(String what, CalendaryPlanner planner, int number,
            Class<? extends RuntimeException> due, Call call) {
        checks.dueThrow(what + " " + number, planner, due, () -> call.on(planner, number));
    }

    private static void bounded(String what, int least, int most,
            Class<? extends RuntimeException> due, Call call) {
        bounded(what, BoundsTest::aPlanner, least, most, due, call);
    }

    private static void bounded(String what, Supplier<CalendaryPlanner> maker, int least, int most,
            Class<? extends RuntimeException> due, Call call) {
        for (int number = least; number <= most; number++) {
            allowed(what, maker.get(), number, call);
        }
        ruledOut(what, maker.get(), least - 1, due, call);
        ruledOut(what, maker.get(), most + 1, due, call);
        for (int far : FAR_OFF) {
            for (int number : new int[] {far, least + far, most + far}) {
                if (number < least || number > most) {
                    ruledOut(what, maker.get(), number, due, call);
                }
            }
        }
    }

    private static void ofMeeting(String what, Call call) {
        for (int meeting : MEETINGS) {
            allowed(what + " meeting", aPlanner(), meeting, call);
        }
        for (int meeting : NO_MEETINGS) {
            ruledOut(what + " meeting", aPlanner(), meeting, NO_SUCH, call);
        }
    }

    private static void rooms() {
        bounded("p2 room", 0, 3, ILLEGAL, (planner, n) -> planner.setRoom(n, 1, 0));
        bounded("p2 seats", 0, 6, ILLEGAL, (planner, n) -> planner.setRoom(0, n, 0));
        bounded("p2 house", 0, 1, ILLEGAL, (planner, n) -> planner.setRoom(0, 1, n));
        bounded("p3 gap", 0, 3, ILLEGAL, (planner, n) -> planner.setGap(n));
        bounded("p4 room", 0, 3, ILLEGAL, (planner, n) -> planner.seatsOf(n));
        bounded("p5 room", 0, 3, ILLEGAL, (planner, n) -> planner.houseOf(n));
    }

    private static void ask() {
        bounded("p6 host", 0, 5, ILLEGAL, (planner, n) -> planner.ask(n, 0, 20, 3, 2));
        bounded("p6 others", 0, 63, ILLEGAL, (planner, n) -> planner.ask(0, n, 20, 3, 2));
        bounded("p6 day", 0, 27, ILLEGAL, (planner, n) -> planner.ask(0, 0, n, 0, 1));
        bounded("p6 time", 0, 15, ILLEGAL, (planner, n) -> planner.ask(0, 0, 20, n, 1));
        bounded("p6 length", 1, 6, ILLEGAL, (planner, n) -> planner.ask(0, 0, 20, 0, n));
    }

    /** The times of a date must all be on its day: the last ones that are end with time 15. */
    private static void timesOfADay() {
        for (int each = 1; each <= 6; each++) {
            int length = each;
            bounded("p6 time of length " + length, 0, 16 - length, ILLEGAL,
                    (planner, n) -> planner.ask(0, 0, 20, n, length));
            bounded("p11 time of length " + length, () -> withMeeting4(length), 0, 16 - length,
                    ILLEGAL, (planner, n) -> planner.move(4, 0, 21, n));
            bounded("p31 time of length " + length, 0, 16 - length, ILLEGAL,
                    (planner, n) -> planner.roomFor(1, length, 20, n));
        }
        for (int time = 10; time < 16; time++) {
            int last = time;
            bounded("p6 length from time " + last, 1, 16 - last, ILLEGAL,
                    (planner, n) -> planner.ask(0, 0, 20, last, n));
            bounded("p31 length from time " + last, 1, 16 - last, ILLEGAL,
                    (planner, n) -> planner.roomFor(1, n, 20, last));
        }
    }

    private static void extendByDaysAndDates() {
        ofMeeting("p7", (planner, n) -> planner.extend(n, 1, 1));
        bounded("p7 days", 1, 14, ILLEGAL, (planner, n) -> planner.extend(3, n, 1));
        bounded("p7 dates", 1, 5, ILLEGAL, (planner, n) -> planner.extend(3, 1, n));
        CalendaryPlanner planner = aPlanner();
        checks.dueThrow("p7 days and dates that wrap around to day 1", planner, ILLEGAL,
                () -> planner.extend(3, 1 << 16, 1 << 16));
    }

    /** The dates of meeting 3 begin on a day that is drawn on in steps up to day 27 and beyond. */
    private static void extendUpToTheLastDay() {
        for (int first = 0; first < 28; first++) {
            for (int dates = 1; dates <= 5; dates++) {
                for (int days = 1; days <= 14; days++) {
                    extendFrom(first, days, dates);
                }
            }
        }
    }

    private static void extendFrom(int first, int days, int dates) {
        CalendaryPlanner planner = new CalendaryPlanner();
        String what = "p7 from day " + first + ", " + dates + " dates by " + days;
        planner.ask(1, 4, first, 15, 1);
        int last = first + days * dates;
        if (last > 27) {
            checks.dueThrow(what, planner, ILLEGAL, () -> planner.extend(0, days, dates));
        } else {
            checks.due(what, dates + 1, planner.extend(0, days, dates));
            checks.due(what + ": first new day", first + days, planner.dayOf(0, 1));
            checks.due(what + ": last new day", last, planner.dayOf(0, dates));
        }
    }

    private static void extendUpToSixDates() {
        for (int before = 1; before <= 6; before++) {
            for (int dates = 1; dates <= 5; dates++) {
                CalendaryPlanner planner = new CalendaryPlanner();
                planner.ask(1, 4, 0, 15, 1);
                for (int date = 1; date < before; date++) {
                    planner.extend(0, 1, 1);
                }
                int more = dates;
                String what = "p7 " + before + " dates and " + more;
                if (before + more > 6) {
                    checks.dueThrow(what, planner, STATE, () -> planner.extend(0, 1, more));
                } else {
                    checks.due(what, before + more, planner.extend(0, 1, more));
                }
            }
        }
    }

    private static void answer() {
        ofMeeting("p8", (planner, n) -> planner.remove(n));
        for (int meeting : NO_MEETINGS) {
            ruledOut("p9 meeting", aPlanner(), meeting, NO_SUCH,
                    (planner, n) -> planner.answer(n, 0, 'y'));
        }
        allowed("p9 meeting", aPlanner(), 1, (planner, n) -> planner.answer(n, 0, 'y'));
        bounded("p9 person", 0, 5, ILLEGAL, BoundsTest::answerForAny);
        for (int sign = 0; sign <= Character.MAX_VALUE; sign += sign < 512 ? 1 : 509) {
            Call call = (planner, n) -> planner.answer(1, 0, (char) n);
            if (sign == 'y' || sign == 'n' || sign == 'o') {
                allowed("p9 answer", aPlanner(), sign, call);
            } else {
                ruledOut("p9 answer", aPlanner(), sign, ILLEGAL, call);
            }
        }
    }

    /** For everybody but the host of meeting 1, who is host of a new one that nobody else is. */
    private static Object answerForAny(CalendaryPlanner planner, int person) {
        int meeting = person == 5 ? planner.ask(0, 32, 20, 0, 1) : 1;
        return planner.answer(meeting, person, 'n');
    }

    private static void changedDates() {
        ofMeeting("p10", (planner, n) -> planner.cancel(n, 0));
        bounded("p10 date", 0, 2, INDEX, (planner, n) -> planner.cancel(1, n));
        bounded("p10 only date", 0, 0, INDEX, (planner, n) -> planner.cancel(3, n));
    }

    private static void move() {
        ofMeeting("p11", (planner, n) -> planner.move(n, 0, 20, 0));
        bounded("p11 date", 0, 2, INDEX, (planner, n) -> planner.move(1, n, 20, 0));
        bounded("p11 only date", 0, 0, INDEX, (planner, n) -> planner.move(3, n, 20, 0));
        bounded("p11 day", 0, 27, ILLEGAL, (planner, n) -> planner.move(1, 0, n, 0));
        bounded("p11 time", 0, 14, ILLEGAL, (planner, n) -> planner.move(1, 0, 20, n));
        bounded("p11 time of one", 0, 15, ILLEGAL, (planner, n) -> planner.move(3, 0, 20, n));
    }

    private static void meetingsAndPeople() {
        bounded("p13 rank", 0, 1, NO_SUCH, (planner, n) -> planner.meetingAt(n));
        ofMeeting("p14", (planner, n) -> planner.hostOf(n));
        ofMeeting("p15", (planner, n) -> planner.answerOf(n, 0));
        bounded("p15 person", 0, 5, ILLEGAL, (planner, n) -> planner.answerOf(1, n));
        ofMeeting("p16", (planner, n) -> planner.expected(n));
        ofMeeting("p17", (planner, n) -> planner.dateCount(n));
    }

    private static void shownDates() {
        ofMeeting("p18", (planner, n) -> planner.dayOf(n, 0));
        ofMeeting("p19", (planner, n) -> planner.timeOf(n, 0));
        ofMeeting("p20", (planner, n) -> planner.isCancelled(n, 0));
        ofMeeting("p21", (planner, n) -> planner.roomOf(n, 0));
        bounded("p18 date", 0, 2, INDEX, (planner, n) -> planner.dayOf(1, n));
        bounded("p19 date", 0, 2, INDEX, (planner, n) -> planner.timeOf(1, n));
        bounded("p20 date", 0, 2, INDEX, (planner, n) -> planner.isCancelled(1, n));
        bounded("p21 date", 0, 2, INDEX, (planner, n) -> planner.roomOf(1, n));
        bounded("p18 only date", 0, 0, INDEX, (planner, n) -> planner.dayOf(3, n));
        bounded("p19 only date", 0, 0, INDEX, (planner, n) -> planner.timeOf(3, n));
        bounded("p20 only date", 0, 0, INDEX, (planner, n) -> planner.isCancelled(3, n));
        bounded("p21 only date", 0, 0, INDEX, (planner, n) -> planner.roomOf(3, n));
    }

    private static void freeTimes() {
        bounded("p24 person", 0, 5, ILLEGAL, (planner, n) -> planner.isFree(n, 2, 9));
        bounded("p24 day", 0, 27, ILLEGAL, (planner, n) -> planner.isFree(0, n, 9));
        bounded("p24 time", 0, 15, ILLEGAL, (planner, n) -> planner.isFree(0, 2, n));
        bounded("p25 person", 0, 5, ILLEGAL, (planner, n) -> planner.meetingOf(n, 2, 9));
        bounded("p25 day", 0, 27, ILLEGAL, (planner, n) -> meetingOrFree(planner, n, 9));
        bounded("p25 time", 0, 15, ILLEGAL, (planner, n) -> meetingOrFree(planner, 2, n));
        bounded("p26 person", 0, 5, ILLEGAL, (planner, n) -> planner.freeTimes(n, 2));
        bounded("p26 day", 0, 27, ILLEGAL, (planner, n) -> planner.freeTimes(0, n));
        bounded("p27 person", 0, 5, ILLEGAL, (planner, n) -> planner.freeByTrying(n, 2));
        bounded("p27 day", 0, 27, ILLEGAL, (planner, n) -> planner.freeByTrying(0, n));
        bounded("p28 person", 0, 5, ILLEGAL, (planner, n) -> planner.longestFree(n, 2));
        bounded("p28 day", 0, 27, ILLEGAL, (planner, n) -> planner.longestFree(0, n));
    }

    private static Object meetingOrFree(CalendaryPlanner planner, int day, int time) {
        try {
            return planner.meetingOf(0, day, time);
        } catch (NoSuchElementException e) {
            return -1;
        }
    }

    private static void commonTimes() {
        bounded("p29 people", 1, 63, ILLEGAL, (planner, n) -> planner.firstCommon(n, 1, 2));
        bounded("p29 length", 1, 6, ILLEGAL, (planner, n) -> planner.firstCommon(1, n, 2));
        bounded("p29 day", 0, 27, ILLEGAL, (planner, n) -> planner.firstCommon(1, 1, n));
        bounded("p30 people", 1, 63, ILLEGAL, (planner, n) -> planner.commonCount(n, 1, 2));
        bounded("p30 length", 1, 6, ILLEGAL, (planner, n) -> planner.commonCount(1, n, 2));
        bounded("p30 day", 0, 27, ILLEGAL, (planner, n) -> planner.commonCount(1, 1, n));
        bounded("p31 people", 1, 63, ILLEGAL, (planner, n) -> planner.roomFor(n, 1, 2, 0));
        bounded("p31 length", 1, 6, ILLEGAL, (planner, n) -> planner.roomFor(1, n, 2, 0));
        bounded("p31 day", 0, 27, ILLEGAL, (planner, n) -> planner.roomFor(1, 1, n, 0));
        bounded("p31 time", 0, 15, ILLEGAL, (planner, n) -> planner.roomFor(1, 1, 20, n));
    }

    private static void days() {
        bounded("p32 room", 0, 3, ILLEGAL, (planner, n) -> planner.usedTimes(n, 2));
        bounded("p32 day", 0, 27, ILLEGAL, (planner, n) -> planner.usedTimes(0, n));
        bounded("p33 person", 0, 5, ILLEGAL, (planner, n) -> planner.walks(n, 2));
        bounded("p33 day", 0, 27, ILLEGAL, (planner, n) -> planner.walks(0, n));
    }
}
