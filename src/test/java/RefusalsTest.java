/** Promises 6, 7, 9, 11, 22 and 23: the reasons and details of refusals, and what is none. */
public final class RefusalsTest {
    private static final Checks checks = new Checks("RefusalsTest");

    public static void main(String[] args) {
        lowestPerson();
        firstBusyDateOfMany();
        firstDateWithoutARoom();
        busyGoesBeforeNoRoom();
        newDatesOnDaysOfOldOnes();
        movedDateDoesNotCountWhereItWas();
        movedOntoOthers();
        movedAfterCancelling();
        indexOfTheMovedDate();
        firstDateWithoutASeat();
        seatsForOneMore();
        seatGoesBeforeClash();
        clashAtEachTime();
        clashByWalking();
        firstDateThatClashes();
        whatDoesNotClash();
        ownDatesThatClash();
        answersThatAreNotRefused();
        checks.end();
    }

    /** Every set of people that is busy, and every set that is asked for. */
    private static void lowestPerson() {
        for (int busy = 1; busy < 64; busy++) {
            CalendaryPlanner planner = new CalendaryPlanner();
            int host = Integer.numberOfTrailingZeros(busy);
            planner.setRoom(2, 6, 1);
            planner.ask(host, busy, 5, 4, 2);
            planner.ask(host, busy, 6, 4, 2);
            for (int asked = 1; asked < 64; asked++) {
                int last = 31 - Integer.numberOfLeadingZeros(asked);
                int others = asked;
                int both = busy & asked;
                String what = "p6 " + asked + " where " + busy + " are busy";
                if (both != 0) {
                    int lowest = Integer.numberOfTrailingZeros(both);
                    checks.dueRefusal(what, planner, 1, lowest,
                            () -> planner.ask(last, others, 5, 5, 2));
                } else {
                    planner.remove(planner.ask(last, others, 5, 5, 2));
                }
            }
        }
    }

    /** Person 0 asks 2 and 4; the first of five new dates at which one of them is busy tells. */
    private static void firstBusyDateOfMany() {
        for (int first = 1; first <= 5; first++) {
            for (int later = first + 1; later <= 6; later++) {
                CalendaryPlanner planner = new CalendaryPlanner();
                planner.ask(0, 4 | 16, 0, 0, 2);
                planner.ask(4, 8, 3 * first, 1, 1);
                planner.ask(2, 8, 3 * later, 1, 1);
                checks.dueRefusal("p7 busy at " + first + " and " + later, planner, 1, 4,
                        () -> planner.extend(0, 3, 5));
                checks.due("p7 up to the busy one", first,
                        first == 1 ? 1 : planner.extend(0, 3, first - 1));
            }
        }
    }

    /** All rooms are taken, by others, on the days of the dates that are told by their index. */
    private static void firstDateWithoutARoom() {
        for (int before = 1; before <= 5; before++) {
            for (int index = before; index <= 5; index++) {
                CalendaryPlanner planner = new CalendaryPlanner();
                planner.ask(0, 2, 0, 0, 2);
                for (int date = 1; date < before; date++) {
                    planner.extend(0, 2, 1);
                }
                for (int person = 2; person < 6; person++) {
                    planner.ask(person, 0, 2 * index, 1, 1);
                    planner.extend(person - 1, 4, 1);
                }
                int more = 6 - before;
                String what = "p7 " + before + " dates, no room for date " + index;
                checks.dueRefusal(what, planner, 2, index, () -> planner.extend(0, 2, more));
                planner.cancel(0, 0);
                checks.dueRefusal(what + ", date 0 is cancelled", planner, 2, index,
                        () -> planner.extend(0, 2, more));
                planner.remove(3);
                checks.due(what + ", then one", 6, planner.extend(0, 2, more));
            }
        }
    }

    /** Reason 1 goes before reason 2, even where the date that has no room is an earlier one. */
    private static void busyGoesBeforeNoRoom() {
        CalendaryPlanner planner = new CalendaryPlanner();
        planner.ask(0, 2, 0, 0, 2);
        for (int person = 2; person < 6; person++) {
            planner.ask(person, 0, 1, 0, 2);
        }
        planner.ask(1, 0, 5, 1, 1);
        checks.dueRefusal("p7 the last date is busy", planner, 1, 1, () -> planner.extend(0, 1, 5));
        checks.dueRefusal("p7 the first has no room", planner, 2, 1, () -> planner.extend(0, 1, 4));
    }

    /** New dates are behind the last one, as that is then, and may come to days of older ones. */
    private static void newDatesOnDaysOfOldOnes() {
        CalendaryPlanner planner = new CalendaryPlanner();
        planner.ask(3, 2 | 4, 10, 0, 2);
        planner.extend(0, 5, 2);
        planner.move(0, 2, 5, 0);
        checks.dueRefusal("p7 onto date 0, by its host and people", planner, 1, 1,
                () -> planner.extend(0, 5, 1));
        planner.move(0, 2, 5, 1);
        checks.dueRefusal("p7 partly onto date 0", planner, 1, 1, () -> planner.extend(0, 5, 1));
        planner.move(0, 2, 5, 2);
        checks.due("p7 right behind date 0", 4, planner.extend(0, 5, 1));
        checks.due("p7 behind the last one's day", 10, planner.dayOf(0, 3));
        checks.due("p7 at the last one's time", 2, planner.timeOf(0, 3));
        planner.cancel(0, 3);
        planner.move(0, 2, 20, 9);
        checks.due("p7 behind a cancelled one", 5, planner.extend(0, 1, 1));
        checks.due("p7 a cancelled one's day", 11, planner.dayOf(0, 4));
        checks.due("p7 a cancelled one's time", 2, planner.timeOf(0, 4));
        checks.due("p7 its length", 14, planner.freeTimes(1, 11));
        planner.cancel(0, 4);
        planner.move(0, 4, 12, 0);
        checks.due("p7 behind one that was cancelled", 6, planner.extend(0, 15 - 1, 1));
        checks.due("p7 up to its day", 26, planner.dayOf(0, 5));
    }

    /** Neither for its people, nor for its room, nor for walks. */
    private static void movedDateDoesNotCountWhereItWas() {
        for (int time = 0; time <= 13; time++) {
            CalendaryPlanner planner = new CalendaryPlanner();
            planner.setGap(3);
            planner.ask(0, 62, 5, 6, 3);
            planner.setRoom(0, 6, 0);
            checks.due("p11 to the other house, at " + time, 0, planner.move(0, 0, 5, time));
            checks.due("p11 its times at " + time, 3, planner.usedTimes(0, 5));
            planner.setRoom(0, 0, 0);
            checks.due("p11 and back", 3, planner.move(0, 0, 5, 6));
            planner.setRoom(1, 0, 0);
            planner.setRoom(2, 0, 0);
            checks.due("p11 in its only room", 3, planner.move(0, 0, 5, time));
        }
    }

    private static void movedOntoOthers() {
        CalendaryPlanner planner = new CalendaryPlanner();
        planner.ask(3, 2 | 4, 10, 4, 2);
        planner.extend(0, 1, 2);
        checks.dueRefusal("p11 onto its own date 0", planner, 1, 1,
                () -> planner.move(0, 2, 10, 5));
        checks.dueRefusal("p11 onto its own date 1", planner, 1, 1,
                () -> planner.move(0, 2, 11, 3));
        checks.due("p11 right behind date 0", 1, planner.move(0, 2, 10, 6));
        checks.due("p11 right before date 0", 1, planner.move(0, 2, 10, 2));
        planner.ask(2, 0, 12, 4, 2);
        checks.dueRefusal("p11 onto another meeting", planner, 1, 2,
                () -> planner.move(0, 0, 12, 5));
        planner.answer(0, 2, 'n');
        checks.due("p11 without the busy person", 1, planner.move(0, 0, 12, 5));
        planner.setRoom(1, 0, 0);
        planner.setRoom(0, 1, 0);
        checks.dueRefusal("p11 a walk from its own date", planner, 2, 1,
                () -> planner.move(0, 1, 12, 7));
        checks.due("p11 time enough for the walk", 2, planner.move(0, 1, 12, 8));
    }

    /** A cancelled date leaves its times to others, and takes them only if it can. */
    private static void movedAfterCancelling() {
        CalendaryPlanner planner = new CalendaryPlanner();
        planner.ask(0, 2, 10, 4, 2);
        planner.cancel(0, 0);
        planner.ask(1, 0, 10, 5, 2);
        checks.dueRefusal("p11 its times are gone", planner, 1, 1, () -> planner.move(0, 0, 10, 4));
        checks.due("p20 it stays cancelled", true, planner.isCancelled(0, 0));
        checks.due("p11 one time before", 0, planner.move(0, 0, 10, 3));
        checks.due("p20 it is not cancelled then", false, planner.isCancelled(0, 0));
        checks.due("p10 cancelled again", 0, planner.cancel(0, 0));
        planner.remove(1);
        for (int person = 2; person < 6; person++) {
            planner.ask(person, 0, 10, 3, 1);
        }
        checks.dueRefusal("p11 its room is gone", planner, 2, 0, () -> planner.move(0, 0, 10, 3));
        checks.due("p11 behind the others", 0, planner.move(0, 0, 10, 4));
    }

    private static void indexOfTheMovedDate() {
        CalendaryPlanner planner = new CalendaryPlanner();
        planner.ask(0, 62, 0, 0, 6);
        planner.extend(0, 1, 5);
        planner.setRoom(3, 5, 1);
        for (int date = 0; date < 6; date++) {
            int index = date;
            checks.dueRefusal("p11 no room for date " + index, planner, 2, index,
                    () -> planner.move(0, index, 20, 10));
        }
        planner.setRoom(3, 6, 1);
        for (int date = 0; date < 6; date++) {
            checks.due("p11 a room for date " + date, 3, planner.move(0, date, 20 + date, 10));
        }
    }

    /** Meeting 0 of the host 0 has six dates, and person 1 has said no. */
    private static CalendaryPlanner afterNo() {
        CalendaryPlanner planner = new CalendaryPlanner();
        planner.setRoom(2, 2, 1);
        planner.ask(0, 2, 0, 4, 2);
        planner.extend(0, 1, 5);
        planner.answer(0, 1, 'n');
        return planner;
    }

    /** Room 0 has just one seat then; date by date moves to room 1 or is cancelled. */
    private static void firstDateWithoutASeat() {
        CalendaryPlanner planner = afterNo();
        planner.setRoom(0, 1, 0);
        for (int date = 0; date < 6; date++) {
            checks.dueRefusal("p9 no seat for yes at date " + date, planner, 3, date,
                    () -> planner.answer(0, 1, 'y'));
            checks.dueRefusal("p9 no seat for open at date " + date, planner, 3, date,
                    () -> planner.answer(0, 1, 'o'));
            if (date % 2 == 0) {
                planner.cancel(0, date);
            } else {
                planner.setRoom(0, 0, 0);
                planner.move(0, date, date, 9);
                planner.setRoom(0, 1, 0);
            }
        }
        checks.due("p9 a seat at all dates that are left", 'n', planner.answer(0, 1, 'y'));
    }

    /** For each number of people who are expected and each number of seats. */
    private static void seatsForOneMore() {
        for (int people = 1; people <= 5; people++) {
            for (int seats = 0; seats <= 6; seats++) {
                CalendaryPlanner planner = new CalendaryPlanner();
                int last = people;
                planner.ask(0, (2 << people) - 2, 0, 0, 1);
                planner.answer(0, last, 'n');
                planner.setRoom(planner.roomOf(0, 0), seats, 0);
                String what = "p9 " + seats + " seats, " + people + " people and one more";
                if (seats > people) {
                    checks.due(what, 'n', planner.answer(0, last, 'o'));
                    checks.due(what + ": expected", people + 1, planner.expected(0));
                } else {
                    checks.dueRefusal(what, planner, 3, 0, () -> planner.answer(0, last, 'o'));
                }
            }
        }
    }

    private static void seatGoesBeforeClash() {
        CalendaryPlanner planner = afterNo();
        planner.ask(1, 0, 0, 4, 2);
        planner.setRoom(0, 1, 0);
        for (int date = 0; date < 5; date++) {
            planner.setRoom(0, 0, 0);
            planner.move(0, date, date, 4);
            planner.setRoom(0, 1, 0);
        }
        checks.dueRefusal("p9 no seat at the last date", planner, 3, 5,
                () -> planner.answer(0, 1, 'y'));
        planner.setRoom(0, 2, 0);
        checks.dueRefusal("p9 a clash at the first date", planner, 4, 0,
                () -> planner.answer(0, 1, 'y'));
    }

    /** Meeting 0 has the times 6, 7 and 8, and person 1 others in the same house. */
    private static void clashAtEachTime() {
        for (int length = 1; length <= 6; length++) {
            for (int time = 0; time + length <= 16; time++) {
                CalendaryPlanner planner = new CalendaryPlanner();
                planner.setGap(3);
                planner.ask(0, 2, 5, 6, 3);
                planner.answer(0, 1, 'n');
                planner.ask(1, 0, 5, time, length);
                answerWhere(planner, "p9 the same house, times " + time + " and " + length,
                        time + length <= 6 || time >= 9);
            }
        }
    }

    private static void answerWhere(CalendaryPlanner planner, String what, boolean fine) {
        if (fine) {
            checks.due(what, 'n', planner.answer(0, 1, 'y'));
        } else {
            checks.dueRefusal(what, planner, 4, 0, () -> planner.answer(0, 1, 'y'));
            checks.dueRefusal(what + ", open", planner, 4, 0, () -> planner.answer(0, 1, 'o'));
        }
    }

    /** Meeting 0 has the times 6, 7 and 8 in house 0, and person 1 others in house 1. */
    private static void clashByWalking() {
        for (int gap = 0; gap <= 3; gap++) {
            for (int time = 0; time < 15; time++) {
                CalendaryPlanner planner = new CalendaryPlanner();
                planner.ask(0, 2, 5, 6, 3);
                planner.answer(0, 1, 'n');
                planner.setRoom(0, 0, 0);
                planner.setRoom(1, 0, 0);
                planner.ask(1, 0, 5, time, 2);
                planner.setRoom(0, 2, 0);
                planner.setGap(gap);
                answerWhere(planner, "p9 gap " + gap + ", time " + time,
                        time + 2 <= 6 - gap || time >= 9 + gap);
            }
        }
    }

    /** Person 1 is busy at the dates from 5 down to 0, and lastly at all of them. */
    private static void firstDateThatClashes() {
        CalendaryPlanner planner = afterNo();
        for (int date = 5; date >= 0; date--) {
            int index = date;
            planner.ask(1, 0, index, 5, 2);
            checks.dueRefusal("p9 a clash from date " + index + " on", planner, 4, index,
                    () -> planner.answer(0, 1, 'o'));
        }
        for (int date = 0; date < 5; date++) {
            int next = date + 1;
            planner.cancel(0, date);
            checks.dueRefusal("p9 date " + date + " is cancelled", planner, 4, next,
                    () -> planner.answer(0, 1, 'y'));
        }
        planner.cancel(0, 5);
        checks.due("p9 all are cancelled", 'n', planner.answer(0, 1, 'y'));
    }

    /** Dates of others, of other days, without the person, cancelled or removed. */
    private static void whatDoesNotClash() {
        CalendaryPlanner planner = afterNo();
        planner.ask(2, 8, 0, 4, 2);
        planner.ask(1, 0, 6, 4, 2);
        planner.ask(4, 2, 1, 4, 2);
        planner.answer(3, 1, 'n');
        planner.ask(1, 32, 2, 4, 2);
        planner.cancel(4, 0);
        planner.ask(1, 32, 3, 4, 2);
        planner.remove(5);
        checks.due("p9 no clash", 'n', planner.answer(0, 1, 'y'));
        checks.dueRefusal("p9 the other no then clashes", planner, 4, 0,
                () -> planner.answer(3, 1, 'y'));
    }

    /** Dates of one meeting in rooms of one house, of which one comes to the other house. */
    private static void ownDatesThatClash() {
        CalendaryPlanner planner = new CalendaryPlanner();
        planner.setGap(2);
        planner.ask(5, 0, 9, 6, 2);
        planner.ask(0, 2, 9, 3, 2);
        planner.extend(1, 1, 2);
        planner.move(1, 1, 9, 6);
        planner.answer(1, 1, 'n');
        planner.setRoom(1, 3, 1);
        checks.due("the room of date 1", 1, planner.roomOf(1, 1));
        checks.dueRefusal("p9 dates 0 and 1", planner, 4, 0, () -> planner.answer(1, 1, 'y'));
        planner.setGap(1);
        checks.due("p9 time enough between dates 0 and 1", 'n', planner.answer(1, 1, 'y'));
        planner.answer(1, 1, 'n');
        planner.setGap(2);
        planner.cancel(1, 0);
        checks.due("p9 date 0 is cancelled", 'n', planner.answer(1, 1, 'o'));
    }

    /** Answers that do not follow no, or are no, want neither seats nor times. */
    private static void answersThatAreNotRefused() {
        for (char before : new char[] {'o', 'y', 'n'}) {
            for (char after : new char[] {'o', 'y', 'n'}) {
                if (before != 'n' || after == 'n') {
                    CalendaryPlanner planner = new CalendaryPlanner();
                    planner.setGap(0);
                    planner.ask(0, 2, 5, 0, 2);
                    planner.ask(1, 4 | 8, 5, 2, 2);
                    planner.answer(0, 1, before);
                    planner.setGap(3);
                    planner.setRoom(0, 0, 0);
                    planner.setRoom(1, 0, 1);
                    String what = "p9 " + before + " to " + after;
                    checks.due(what, before, planner.answer(0, 1, after));
                    checks.due(what + ": then", after, planner.answerOf(0, 1));
                    checks.due(what + ": expected", after == 'n' ? 1 : 2, planner.expected(0));
                }
            }
        }
    }
}
