/** Promises 32 to 37; their bounds are in BoundsTest. */
public final class DaysAndSharesTest {
    private static final Class<ArithmeticException> ARITHMETIC = ArithmeticException.class;

    private static final Checks checks = new Checks("DaysAndSharesTest");

    public static void main(String[] args) {
        usedTimes();
        allTimesOfARoom();
        walks();
        walksAtEveryTime();
        sittings();
        meanExpected();
        yesShare();
        sharesOfAllNumbers();
        isConsistent();
        checks.end();
    }

    private static void usedTimes() {
        CalendaryPlanner planner = new CalendaryPlanner();
        planner.ask(0, 0, 6, 0, 6);
        planner.ask(1, 0, 6, 6, 2);
        planner.ask(2, 0, 6, 0, 3);
        checks.due("p32 two dates", 8, planner.usedTimes(0, 6));
        checks.due("p32 one date", 3, planner.usedTimes(1, 6));
        checks.due("p32 an unused room", 0, planner.usedTimes(2, 6));
        checks.due("p32 another day", 0, planner.usedTimes(0, 7));
        planner.cancel(1, 0);
        checks.due("p32 cancelled", 6, planner.usedTimes(0, 6));
    }

    /** Dates that follow one another, of people who are not the same, up to all 16 times. */
    private static void allTimesOfARoom() {
        CalendaryPlanner planner = new CalendaryPlanner();
        int used = 0;
        for (int length : new int[] {6, 5, 3, 1, 1}) {
            planner.ask(planner.meetingCount(), 0, 27, used, length);
            used += length;
            checks.due("p32 up to time " + (used - 1), used, planner.usedTimes(0, 27));
        }
        for (int room = 1; room < 4; room++) {
            checks.due("p32 nothing in room " + room, 0, planner.usedTimes(room, 27));
        }
        planner.setRoom(0, 0, 1);
        checks.due("p32 without seats", 16, planner.usedTimes(0, 27));
        planner.setRoom(0, 2, 0);
        planner.move(0, 0, 27, 0);
        checks.due("p32 moved to where it is", 16, planner.usedTimes(0, 27));
        planner.setRoom(1, 1, 0);
        planner.move(0, 0, 27, 0);
        checks.due("p32 moved out", 10, planner.usedTimes(0, 27));
        checks.due("p32 moved in", 6, planner.usedTimes(1, 27));
    }

    /** They are planned against the order of their times: the order of asking is no help. */
    private static void walks() {
        CalendaryPlanner planner = new CalendaryPlanner();
        planner.setGap(0);
        planner.ask(0, 2 | 4 | 8, 3, 12, 2);
        planner.ask(0, 2, 3, 0, 2);
        planner.ask(0, 4, 3, 9, 2);
        planner.ask(0, 56, 3, 4, 2);
        checks.due("p33 houses 0 1 0 1", 3, planner.walks(0, 3));
        checks.due("p33 houses 0 1", 1, planner.walks(1, 3));
        checks.due("p33 house 1 twice", 0, planner.walks(3, 3));
        checks.due("p33 one date", 0, planner.walks(4, 3));
        checks.due("p33 another day", 0, planner.walks(0, 4));
        planner.setRoom(0, 2, 1);
        checks.due("p33 the houses of now", 0, planner.walks(0, 3));
        planner.setRoom(0, 2, 0);
        planner.cancel(3, 0);
        checks.due("p33 cancelled", 1, planner.walks(0, 3));
        planner.answer(0, 2, 'n');
        checks.due("p33 after no", 0, planner.walks(2, 3));
    }

    /** A date at each time of day 27, in turn in house 0 and in house 1, from the last time on. */
    private static void walksAtEveryTime() {
        CalendaryPlanner planner = new CalendaryPlanner();
        planner.setGap(0);
        for (int meeting = 0; meeting < 4; meeting++) {
            planner.ask(5, 1, 0, meeting, 1);
            planner.extend(meeting, 1, 3);
        }
        for (int time = 15; time >= 0; time--) {
            planner.setRoom(0, time % 2 == 0 ? 2 : 0, 0);
            planner.setRoom(1, 0, 0);
            planner.move(time / 4, time % 4, 27, time);
            checks.due("p33 from time " + time + " on", 15 - time, planner.walks(5, 27));
            checks.due("p33 the same for who was asked", 15 - time, planner.walks(0, 27));
        }
        checks.due("p33 who was not asked", 0, planner.walks(1, 27));
        planner.cancel(3, 3);
        checks.due("p33 without the last", 14, planner.walks(5, 27));
        planner.cancel(1, 0);
        checks.due("p33 without one between", 12, planner.walks(5, 27));
        planner.setRoom(2, 4, 0);
        checks.due("p33 all rooms in one house", 0, planner.walks(5, 27));
        planner.setRoom(0, 2, 1);
        checks.due("p33 the other way round", 12, planner.walks(5, 27));
    }

    private static void sittings() {
        CalendaryPlanner planner = new CalendaryPlanner();
        checks.due("p34 none", 0L, planner.sittings());
        planner.ask(0, 2 | 4, 0, 0, 3);
        planner.extend(0, 1, 2);
        planner.ask(5, 0, 0, 0, 6);
        checks.due("p34 all", 33L, planner.sittings());
        planner.cancel(0, 1);
        checks.due("p34 cancelled", 24L, planner.sittings());
        planner.answer(0, 1, 'n');
        checks.due("p34 after no", 18L, planner.sittings());
        planner.remove(1);
        checks.due("p34 removed", 12L, planner.sittings());
    }

    private static void meanExpected() {
        CalendaryPlanner planner = new CalendaryPlanner();
        checks.dueThrow("p35 no meetings", planner, ARITHMETIC, planner::meanExpected);
        planner.ask(0, 2, 0, 0, 3);
        planner.ask(3, 0, 0, 0, 3);
        planner.ask(4, 32, 0, 0, 3);
        checks.due("p35 five by three", 5.0 / 3.0, planner.meanExpected());
        planner.answer(2, 5, 'n');
        planner.cancel(0, 0);
        checks.due("p35 cancelled ones count", 4.0 / 3.0, planner.meanExpected());
        planner.remove(0);
        checks.due("p35 removed", 1.0, planner.meanExpected());
        planner.remove(1);
        planner.remove(2);
        checks.dueThrow("p35 no more meetings", planner, ARITHMETIC, planner::meanExpected);
    }

    private static void yesShare() {
        CalendaryPlanner planner = new CalendaryPlanner();
        checks.dueThrow("p36 no meetings", planner, ARITHMETIC, planner::yesShare);
        planner.ask(0, 62, 0, 0, 1);
        checks.dueThrow("p36 all open", planner, ARITHMETIC, planner::yesShare);
        planner.answer(0, 1, 'n');
        checks.due("p36 no alone", 0.0f, planner.yesShare());
        planner.answer(0, 2, 'n');
        planner.answer(0, 3, 'y');
        checks.due("p36 one of three", 1.0f / 3.0f, planner.yesShare());
        planner.ask(1, 1, 5, 0, 1);
        planner.answer(1, 0, 'y');
        checks.due("p36 over all meetings", 0.5f, planner.yesShare());
        planner.remove(0);
        checks.due("p36 yes alone", 1.0f, planner.yesShare());
        planner.answer(1, 0, 'o');
        checks.dueThrow("p36 open again", planner, ARITHMETIC, planner::yesShare);
    }

    /** Each number of yes, no and open answers that one meeting can have. */
    private static void sharesOfAllNumbers() {
        for (int yes = 0; yes <= 5; yes++) {
            for (int no = 0; yes + no <= 5; no++) {
                CalendaryPlanner planner = new CalendaryPlanner();
                planner.ask(5, 31, 0, 0, 1);
                for (int person = 0; person < yes + no; person++) {
                    planner.answer(0, person, person < yes ? 'y' : 'n');
                }
                String what = yes + " yes and " + no + " no";
                checks.due("p35 " + what, (double) (6 - no), planner.meanExpected());
                if (yes + no == 0) {
                    checks.dueThrow("p36 " + what, planner, ARITHMETIC, planner::yesShare);
                } else {
                    checks.due("p36 " + what, (float) yes / (float) (yes + no),
                            planner.yesShare());
                }
            }
        }
    }

    /** No run of calls makes the planner inconsistent, if all else is kept: true is always due. */
    private static void isConsistent() {
        CalendaryPlanner planner = new CalendaryPlanner();
        checks.due("p37 empty", true, planner.isConsistent());
        planner.ask(0, 62, 27, 10, 6);
        planner.ask(0, 1, 27, 0, 6);
        planner.ask(1, 0, 27, 0, 6);
        planner.ask(3, 0, 5, 4, 4);
        planner.extend(3, 1, 5);
        checks.due("p37 planned", true, planner.isConsistent());
        planner.setGap(3);
        planner.setRoom(0, 0, 1);
        planner.setRoom(3, 1, 0);
        checks.due("p37 rooms and gap changed", true, planner.isConsistent());
        planner.answer(0, 3, 'n');
        planner.move(3, 2, 27, 11);
        planner.cancel(0, 0);
        planner.remove(1);
        checks.due("p37 answered, moved, cancelled, removed", true, planner.isConsistent());
    }
}
