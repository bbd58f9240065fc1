/** Promises 32 to 37. */
public final class DaysAndSharesTest {
    private static final Class<IllegalArgumentException> ILLEGAL = IllegalArgumentException.class;
    private static final Class<ArithmeticException> ARITHMETIC = ArithmeticException.class;
    private static final int[] NO_DAY = {-1, 28, Integer.MIN_VALUE, Integer.MAX_VALUE};

    private static final Checks checks = new Checks("DaysAndSharesTest");

    public static void main(String[] args) {
        usedTimes();
        walks();
        sittings();
        meanExpected();
        yesShare();
        isConsistent();
        checks.end();
    }

    private static void usedTimes() {
        CalendaryPlanner planner = new CalendaryPlanner();
        planner.ask(0, 0, 6, 0, 6);
        planner.ask(1, 0, 6, 6, 2);
        planner.ask(2, 0, 6, 0, 3);
        checks.due("p32 two dates", 8, planner.usedTimes(0, 6));
        checks.due("p32 one date", 3, planner.usedTimes(1, 6));
        checks.due("p32 an unused room", 0, planner.usedTimes(2, 6));
        checks.due("p32 another day", 0, planner.usedTimes(0, 7));
        planner.cancel(1, 0);
        checks.due("p32 cancelled", 6, planner.usedTimes(0, 6));
        for (int day : NO_DAY) {
            checks.dueThrow("p32 day " + day, ILLEGAL, () -> planner.usedTimes(0, day));
            checks.dueThrow("p33 day " + day, ILLEGAL, () -> planner.walks(0, day));
        }
        for (int room : new int[] {-1, 4, Integer.MIN_VALUE, Integer.MAX_VALUE}) {
            checks.dueThrow("p32 room " + room, ILLEGAL, () -> planner.usedTimes(room, 6));
        }
        for (int person : new int[] {-1, 6, Integer.MIN_VALUE, Integer.MAX_VALUE}) {
            checks.dueThrow("p33 person " + person, ILLEGAL, () -> planner.walks(person, 6));
        }
    }

    /** They are planned against the order of their times, so that the order of asking is no help. */
    private static void walks() {
        CalendaryPlanner planner = new CalendaryPlanner();
        planner.setGap(0);
        planner.ask(0, 2 | 4 | 8, 3, 12, 2);
        planner.ask(0, 2, 3, 0, 2);
        planner.ask(0, 4, 3, 9, 2);
        planner.ask(0, 56, 3, 4, 2);
        checks.due("p33 houses 0 1 0 1", 3, planner.walks(0, 3));
        checks.due("p33 houses 0 1", 1, planner.walks(1, 3));
        checks.due("p33 house 1 twice", 0, planner.walks(3, 3));
        checks.due("p33 one date", 0, planner.walks(4, 3));
        checks.due("p33 another day", 0, planner.walks(0, 4));
        planner.setRoom(0, 2, 1);
        checks.due("p33 the houses of now", 0, planner.walks(0, 3));
        planner.setRoom(0, 2, 0);
        planner.cancel(3, 0);
        checks.due("p33 cancelled", 1, planner.walks(0, 3));
        planner.answer(0, 2, 'n');
        checks.due("p33 after no", 0, planner.walks(2, 3));
    }

    private static void sittings() {
        CalendaryPlanner planner = new CalendaryPlanner();
        checks.due("p34 none", 0L, planner.sittings());
        planner.ask(0, 2 | 4, 0, 0, 3);
        planner.extend(0, 1, 2);
        planner.ask(5, 0, 0, 0, 6);
        checks.due("p34 all", 33L, planner.sittings());
        planner.cancel(0, 1);
        checks.due("p34 cancelled", 24L, planner.sittings());
        planner.answer(0, 1, 'n');
        checks.due("p34 after no", 18L, planner.sittings());
        planner.remove(1);
        checks.due("p34 removed", 12L, planner.sittings());
    }

    private static void meanExpected() {
        CalendaryPlanner planner = new CalendaryPlanner();
        checks.dueThrow("p35 no meetings", ARITHMETIC, planner::meanExpected);
        planner.ask(0, 2, 0, 0, 3);
        planner.ask(3, 0, 0, 0, 3);
        planner.ask(4, 32, 0, 0, 3);
        checks.due("p35 five by three", 5.0 / 3.0, planner.meanExpected());
        planner.answer(2, 5, 'n');
        planner.cancel(0, 0);
        checks.due("p35 cancelled ones count", 4.0 / 3.0, planner.meanExpected());
        planner.remove(0);
        checks.due("p35 removed", 1.0, planner.meanExpected());
        planner.remove(1);
        planner.remove(2);
        checks.dueThrow("p35 no more meetings", ARITHMETIC, planner::meanExpected);
    }

    private static void yesShare() {
        CalendaryPlanner planner = new CalendaryPlanner();
        checks.dueThrow("p36 no meetings", ARITHMETIC, planner::yesShare);
        planner.ask(0, 62, 0, 0, 1);
        checks.dueThrow("p36 all open", ARITHMETIC, planner::yesShare);
        planner.answer(0, 1, 'n');
        checks.due("p36 no alone", 0.0f, planner.yesShare());
        planner.answer(0, 2, 'n');
        planner.answer(0, 3, 'y');
        checks.due("p36 one of three", 1.0f / 3.0f, planner.yesShare());
        planner.ask(1, 1, 5, 0, 1);
        planner.answer(1, 0, 'y');
        checks.due("p36 over all meetings", 0.5f, planner.yesShare());
        planner.remove(0);
        checks.due("p36 yes alone", 1.0f, planner.yesShare());
        planner.answer(1, 0, 'o');
        checks.dueThrow("p36 open again", ARITHMETIC, planner::yesShare);
    }

    /** No run of calls makes the planner inconsistent, if all else is kept: true is always due. */
    private static void isConsistent() {
        CalendaryPlanner planner = new CalendaryPlanner();
        checks.due("p37 empty", true, planner.isConsistent());
        planner.ask(0, 62, 27, 10, 6);
        planner.ask(0, 1, 27, 0, 6);
        planner.ask(1, 0, 27, 0, 6);
        planner.ask(3, 0, 5, 4, 4);
        planner.extend(3, 1, 5);
        checks.due("p37 planned", true, planner.isConsistent());
        planner.setGap(3);
        planner.setRoom(0, 0, 1);
        planner.setRoom(3, 1, 0);
        checks.due("p37 rooms and gap changed", true, planner.isConsistent());
        planner.answer(0, 3, 'n');
        planner.move(3, 2, 27, 11);
        planner.cancel(0, 0);
        planner.remove(1);
        checks.due("p37 answered, moved, cancelled, removed", true, planner.isConsistent());
    }
}
