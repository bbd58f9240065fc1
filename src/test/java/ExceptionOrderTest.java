import java.util.NoSuchElementException;

/**
 * Promises 6 to 31: of several exceptions that apply, the one that is documented first is thrown;
 * and what throws or is refused changes nothing but the latest refusal, nor uses up a number.
 */
public final class ExceptionOrderTest {
    private static final Class<NoSuchElementException> NO_SUCH = NoSuchElementException.class;
    private static final Class<IllegalArgumentException> ILLEGAL = IllegalArgumentException.class;
    private static final Class<IllegalStateException> STATE = IllegalStateException.class;
    private static final Class<IndexOutOfBoundsException> INDEX = IndexOutOfBoundsException.class;

    private static final Checks checks = new Checks("ExceptionOrderTest");

    public static void main(String[] args) {
        ask();
        askUsesUpNoNumber();
        extend();
        extendTowardsTheLastDay();
        answer();
        cancel();
        move();
        shownDates();
        meetingOf();
        commonTimes();
        latestRefusal();
        checks.end();
    }

    /** Eight meetings of the host 0 and person 1 on the days 0 to 7, at the times 13 to 15. */
    private static CalendaryPlanner full() {
        CalendaryPlanner planner = new CalendaryPlanner();
        for (int day = 0; day < 8; day++) {
            planner.ask(0, 2, day, 13, 3);
        }
        return planner;
    }

    private static void ask() {
        CalendaryPlanner planner = full();
        checks.dueThrow("p6 host before full", planner, ILLEGAL, () -> planner.ask(6, 0, 9, 0, 1));
        checks.dueThrow("p6 others before full", planner, ILLEGAL,
                () -> planner.ask(0, 64, 9, 0, 1));
        checks.dueThrow("p6 day before full", planner, ILLEGAL, () -> planner.ask(0, 0, 28, 0, 1));
        checks.dueThrow("p6 time before full", planner, ILLEGAL, () -> planner.ask(0, 0, 9, 16, 1));
        checks.dueThrow("p6 length before full", planner, ILLEGAL,
                () -> planner.ask(0, 0, 9, 0, 7));
        checks.dueThrow("p6 end of the day before full and busy", planner, ILLEGAL,
                () -> planner.ask(0, 0, 7, 13, 4));
        checks.dueThrow("p6 full before busy", planner, STATE, () -> planner.ask(0, 0, 7, 13, 3));
        for (int room = 0; room < 4; room++) {
            planner.setRoom(room, 0, 0);
        }
        checks.dueThrow("p6 full before no room", planner, STATE,
                () -> planner.ask(5, 0, 20, 0, 1));
        planner.remove(7);
        checks.dueThrow("p6 end of the day before busy", planner, ILLEGAL,
                () -> planner.ask(0, 0, 6, 13, 4));
        checks.dueThrow("p6 end of the day before no room", planner, ILLEGAL,
                () -> planner.ask(0, 0, 20, 13, 4));
        checks.dueRefusal("p6 busy before no room", planner, 1, 0,
                () -> planner.ask(5, 3, 6, 13, 3));
        checks.dueRefusal("p6 no room", planner, 2, 0, () -> planner.ask(5, 0, 6, 13, 3));
    }

    private static void askUsesUpNoNumber() {
        CalendaryPlanner planner = full();
        Checks.outcome(() -> planner.ask(0, 0, 20, 0, 1));
        planner.remove(2);
        checks.dueThrow("p6 illegal", planner, ILLEGAL, () -> planner.ask(0, 0, 28, 0, 1));
        checks.dueRefusal("p6 busy", planner, 1, 1, () -> planner.ask(5, 2, 0, 15, 1));
        planner.setRoom(3, 5, 1);
        checks.dueRefusal("p6 no room", planner, 2, 0, () -> planner.ask(5, 63, 20, 0, 1));
        checks.due("p6 the next number", 8, planner.ask(5, 0, 20, 0, 1));
    }

    /** Meeting 0 has six dates, from day 0 to day 5, and all of them clash a day later. */
    private static void extend() {
        CalendaryPlanner planner = new CalendaryPlanner();
        planner.ask(0, 2, 0, 0, 2);
        planner.extend(0, 1, 5);
        planner.ask(1, 0, 6, 0, 2);
        checks.dueThrow("p7 meeting before days and dates", planner, NO_SUCH,
                () -> planner.extend(2, 15, 6));
        checks.dueThrow("p7 days before too many dates", planner, ILLEGAL,
                () -> planner.extend(0, 15, 1));
        checks.dueThrow("p7 days 0 before too many dates", planner, ILLEGAL,
                () -> planner.extend(0, 0, 1));
        checks.dueThrow("p7 dates before too many dates", planner, ILLEGAL,
                () -> planner.extend(0, 1, 6));
        checks.dueThrow("p7 dates 0 before busy", planner, ILLEGAL, () -> planner.extend(0, 1, 0));
        checks.dueThrow("p7 behind day 27 before too many dates", planner, ILLEGAL,
                () -> planner.extend(0, 12, 2));
        checks.dueThrow("p7 up to day 27 too many dates", planner, STATE,
                () -> planner.extend(0, 11, 2));
        checks.dueThrow("p7 too many dates before busy", planner, STATE,
                () -> planner.extend(0, 1, 1));
        checks.dueThrow("p7 days before busy", planner, ILLEGAL, () -> planner.extend(1, 15, 1));
        for (int room = 0; room < 4; room++) {
            planner.setRoom(room, 0, 0);
        }
        checks.dueThrow("p7 too many dates before no room", planner, STATE,
                () -> planner.extend(0, 2, 1));
    }

    private static void extendTowardsTheLastDay() {
        CalendaryPlanner planner = new CalendaryPlanner();
        planner.ask(0, 2, 13, 0, 2);
        planner.ask(1, 0, 20, 1, 2);
        checks.dueThrow("p7 behind day 27 before busy", planner, ILLEGAL,
                () -> planner.extend(0, 7, 3));
        checks.dueRefusal("p7 up to day 27 busy", planner, 1, 1, () -> planner.extend(0, 7, 2));
    }

    private static void answer() {
        CalendaryPlanner planner = full();
        checks.dueThrow("p9 meeting before person", planner, NO_SUCH,
                () -> planner.answer(8, 6, 'y'));
        checks.dueThrow("p9 meeting before answer", planner, NO_SUCH,
                () -> planner.answer(8, 1, 'x'));
        checks.dueThrow("p9 meeting before host", planner, NO_SUCH,
                () -> planner.answer(-1, 0, 'y'));
        checks.dueThrow("p9 answer before host", planner, ILLEGAL,
                () -> planner.answer(0, 0, 'h'));
        checks.dueThrow("p9 answer before not asked", planner, ILLEGAL,
                () -> planner.answer(0, 2, '-'));
        checks.dueThrow("p9 host", planner, STATE, () -> planner.answer(0, 0, 'y'));
        checks.dueThrow("p9 not asked", planner, STATE, () -> planner.answer(0, 2, 'n'));
        planner.answer(0, 1, 'n');
        planner.setRoom(0, 1, 0);
        checks.dueThrow("p9 answer before no seat", planner, ILLEGAL,
                () -> planner.answer(0, 1, 'Y'));
        checks.dueRefusal("p9 no seat", planner, 3, 0, () -> planner.answer(0, 1, 'y'));
    }

    private static void cancel() {
        CalendaryPlanner planner = full();
        planner.cancel(0, 0);
        checks.dueThrow("p10 meeting before date", planner, NO_SUCH, () -> planner.cancel(8, 1));
        checks.dueThrow("p10 date before cancelled", planner, INDEX, () -> planner.cancel(0, 1));
        checks.dueThrow("p10 date -1 before cancelled", planner, INDEX,
                () -> planner.cancel(0, -1));
        checks.dueThrow("p10 cancelled", planner, STATE, () -> planner.cancel(0, 0));
    }

    private static void move() {
        CalendaryPlanner planner = full();
        checks.dueThrow("p11 meeting before date", planner, NO_SUCH,
                () -> planner.move(8, 1, 20, 0));
        checks.dueThrow("p11 meeting before day", planner, NO_SUCH,
                () -> planner.move(8, 0, 28, 0));
        checks.dueThrow("p11 date before day", planner, INDEX, () -> planner.move(0, 1, 28, 0));
        checks.dueThrow("p11 date before time", planner, INDEX, () -> planner.move(0, -1, 20, 16));
        checks.dueThrow("p11 end of the day before busy", planner, ILLEGAL,
                () -> planner.move(0, 0, 1, 14));
        for (int room = 0; room < 4; room++) {
            planner.setRoom(room, 1, 0);
        }
        checks.dueThrow("p11 end of the day before no room", planner, ILLEGAL,
                () -> planner.move(0, 0, 20, 14));
        checks.dueRefusal("p11 busy before no room", planner, 1, 0,
                () -> planner.move(0, 0, 1, 13));
        checks.dueRefusal("p11 no room", planner, 2, 0, () -> planner.move(0, 0, 20, 13));
    }

    private static void shownDates() {
        CalendaryPlanner planner = full();
        planner.cancel(0, 0);
        checks.dueThrow("p15 meeting before person", planner, NO_SUCH,
                () -> planner.answerOf(8, 6));
        checks.dueThrow("p18 meeting before date", planner, NO_SUCH, () -> planner.dayOf(8, 1));
        checks.dueThrow("p19 meeting before date", planner, NO_SUCH, () -> planner.timeOf(8, 1));
        checks.dueThrow("p20 meeting before date", planner, NO_SUCH,
                () -> planner.isCancelled(8, 1));
        checks.dueThrow("p21 meeting before date", planner, NO_SUCH, () -> planner.roomOf(8, 1));
        checks.dueThrow("p21 date before cancelled", planner, INDEX, () -> planner.roomOf(0, 1));
        checks.dueThrow("p21 date -1 before cancelled", planner, INDEX,
                () -> planner.roomOf(0, -1));
        checks.dueThrow("p21 cancelled", planner, STATE, () -> planner.roomOf(0, 0));
    }

    private static void meetingOf() {
        CalendaryPlanner planner = full();
        checks.dueThrow("p25 person before free", planner, ILLEGAL,
                () -> planner.meetingOf(6, 9, 0));
        checks.dueThrow("p25 day before free", planner, ILLEGAL, () -> planner.meetingOf(0, 28, 0));
        checks.dueThrow("p25 time before free", planner, ILLEGAL,
                () -> planner.meetingOf(0, 7, 16));
    }

    private static void commonTimes() {
        CalendaryPlanner planner = full();
        checks.dueThrow("p31 end of the day before not free", planner, ILLEGAL,
                () -> planner.roomFor(1, 4, 0, 13));
        checks.dueThrow("p31 not free", planner, NO_SUCH, () -> planner.roomFor(1, 3, 0, 13));
        for (int room = 0; room < 4; room++) {
            planner.setRoom(room, 0, 0);
        }
        checks.dueThrow("p29 people before none", planner, ILLEGAL,
                () -> planner.firstCommon(0, 1, 0));
        checks.dueThrow("p29 length before none", planner, ILLEGAL,
                () -> planner.firstCommon(1, 7, 0));
        checks.dueThrow("p29 day before none", planner, ILLEGAL,
                () -> planner.firstCommon(1, 1, 28));
        checks.dueThrow("p29 none", planner, NO_SUCH, () -> planner.firstCommon(1, 1, 0));
        checks.dueThrow("p31 people before no room", planner, ILLEGAL,
                () -> planner.roomFor(64, 1, 20, 0));
        checks.dueThrow("p31 end of the day before no room", planner, ILLEGAL,
                () -> planner.roomFor(1, 2, 20, 15));
        checks.dueThrow("p31 no room", planner, NO_SUCH, () -> planner.roomFor(1, 1, 20, 15));
    }

    /** Each refusal takes the place of the one before, and no other call or exception does. */
    private static void latestRefusal() {
        CalendaryPlanner planner = new CalendaryPlanner();
        planner.ask(0, 2, 0, 0, 2);
        planner.answer(0, 1, 'n');
        planner.ask(1, 8, 0, 0, 2);
        checks.dueRefusal("p22 reason 4", planner, 4, 0, () -> planner.answer(0, 1, 'y'));
        checks.dueRefusal("p22 reason 1", planner, 1, 3, () -> planner.ask(3, 0, 0, 1, 1));
        planner.setRoom(0, 1, 0);
        checks.dueRefusal("p22 reason 3", planner, 3, 0, () -> planner.answer(0, 1, 'o'));
        planner.setRoom(3, 5, 1);
        checks.dueRefusal("p22 reason 2", planner, 2, 0, () -> planner.ask(3, 63, 5, 0, 1));
        checks.dueThrow("p22 not changed by what throws", planner, ILLEGAL,
                () -> planner.ask(3, 63, 28, 0, 1));
        planner.extend(1, 1, 1);
        planner.move(1, 1, 9, 0);
        planner.answer(1, 3, 'y');
        planner.cancel(1, 1);
        planner.remove(1);
        planner.remove(0);
        checks.due("p22 not changed by what is done", 2, planner.refusalReason());
        checks.due("p23 not changed by what is done", 0, planner.refusalDetail());
    }
}
