import java.util.NoSuchElementException;

/** Promises 6 to 11: the calls that change meetings; their bounds are in BoundsTest. */
public final class PlanningTest {
    private static final Class<NoSuchElementException> NO_SUCH = NoSuchElementException.class;
    private static final Class<IllegalStateException> STATE = IllegalStateException.class;

    private static final Checks checks = new Checks("PlanningTest");

    public static void main(String[] args) {
        ask();
        askRefused();
        askForTheSmallestRoom();
        extend();
        extendRefused();
        extendBehindMovedAndCancelled();
        remove();
        answer();
        answerRefusedForSeats();
        answerRefusedForClash();
        answerRefusedForClashWithinTheMeeting();
        cancel();
        move();
        moveRefused();
        checks.end();
    }

    private static void ask() {
        CalendaryPlanner planner = new CalendaryPlanner();
        checks.due("p6 first number", 0, planner.ask(2, 1 | 4 | 32, 27, 10, 6));
        checks.due("p6 host", 2, planner.hostOf(0));
        checks.due("p6 host's bit does not count", 3, planner.expected(0));
        checks.due("p6 day", 27, planner.dayOf(0, 0));
        checks.due("p6 time", 10, planner.timeOf(0, 0));
        checks.due("p6 dates", 1, planner.dateCount(0));
        checks.due("p6 room", 1, planner.roomOf(0, 0));
        checks.due("p6 length", 6, planner.usedTimes(1, 27));
        checks.due("p6 next number", 1, planner.ask(2, 0, 27, 9, 1));
        checks.due("p6 last time of a day", 2, planner.ask(0, 0, 0, 15, 1));
    }

    private static void askRefused() {
        CalendaryPlanner planner = new CalendaryPlanner();
        planner.setGap(0);
        planner.ask(3, 1 << 4, 5, 4, 2);
        checks.dueRefusal("p6 common time", planner, 1, 4, () -> planner.ask(5, 1 << 4, 5, 5, 1));
        checks.dueRefusal("p6 lowest person", planner, 1, 3, () -> planner.ask(4, 8 | 1, 5, 3, 2));
        checks.due("p6 right before", 1, planner.ask(5, 1 << 4, 5, 3, 1));
        checks.due("p6 right behind", 2, planner.ask(5, 1 << 4, 5, 6, 1));
        checks.due("p6 other people then", 3, planner.ask(0, 2, 5, 4, 2));
        planner.answer(0, 4, 'n');
        checks.due("p6 people who said no do not count", 4, planner.ask(4, 0, 5, 4, 2));
        planner.cancel(0, 0);
        checks.due("p6 cancelled dates do not count", 5, planner.ask(3, 0, 5, 4, 2));
        planner.setRoom(3, 5, 1);
        checks.dueRefusal("p6 no room", planner, 2, 0, () -> planner.ask(0, 63, 20, 0, 1));
        checks.due("p6 meetings after refusals", 6, planner.meetingCount());
    }

    private static void askForTheSmallestRoom() {
        CalendaryPlanner planner = new CalendaryPlanner();
        int[] rooms = {0, 0, 1, 2, 3, 3};
        for (int people = 1; people <= 6; people++) {
            planner.ask(0, (1 << people) - 1, people, 0, 1);
            checks.due("p6 room for " + people, rooms[people - 1], planner.roomOf(people - 1, 0));
        }
        planner.setRoom(0, 4, 0);
        planner.setRoom(3, 3, 1);
        planner.ask(1, 1, 20, 0, 1);
        checks.due("p6 lowest number of equal rooms", 1, planner.roomOf(6, 0));
        planner.ask(2, 8, 20, 0, 1);
        checks.due("p6 fewest seats of the free rooms", 3, planner.roomOf(7, 0));
    }

    private static void extend() {
        CalendaryPlanner planner = new CalendaryPlanner();
        planner.ask(0, 6, 1, 7, 3);
        checks.due("p7 dates then", 3, planner.extend(0, 13, 2));
        checks.due("p7 day of the first new", 14, planner.dayOf(0, 1));
        checks.due("p7 day of the second new", 27, planner.dayOf(0, 2));
        checks.due("p7 time", 7, planner.timeOf(0, 2));
        checks.due("p7 room", 1, planner.roomOf(0, 2));
        checks.due("p7 length", 3, planner.usedTimes(1, 27));
    }

    private static void extendRefused() {
        CalendaryPlanner planner = new CalendaryPlanner();
        planner.ask(0, 8 | 16, 0, 0, 2);
        planner.ask(4, 0, 2, 1, 1);
        planner.ask(3, 0, 3, 1, 1);
        checks.dueRefusal("p7 lowest person of the first such date", planner, 1, 4,
                () -> planner.extend(0, 1, 3));

        CalendaryPlanner crowded = new CalendaryPlanner();
        crowded.ask(0, 2, 0, 0, 2);
        crowded.extend(0, 1, 1);
        for (int person = 2; person < 6; person++) {
            crowded.ask(person, 0, 3, 0, 6);
        }
        checks.dueRefusal("p7 the index is among all dates", crowded, 2, 3,
                () -> crowded.extend(0, 1, 4));
        crowded.ask(1, 0, 5, 0, 1);
        checks.dueRefusal("p7 reason 1 goes before reason 2", crowded, 1, 1,
                () -> crowded.extend(0, 1, 4));
    }

    private static void extendBehindMovedAndCancelled() {
        CalendaryPlanner planner = new CalendaryPlanner();
        planner.ask(0, 2, 10, 3, 2);
        planner.extend(0, 2, 1);
        planner.move(0, 1, 8, 5);
        planner.cancel(0, 1);
        checks.due("p7 behind a cancelled date", 3, planner.extend(0, 3, 1));
        checks.due("p7 its day counts", 11, planner.dayOf(0, 2));
        checks.due("p7 its time counts", 5, planner.timeOf(0, 2));
        checks.due("p7 it stays cancelled", true, planner.isCancelled(0, 1));
        planner.move(0, 2, 9, 4);
        checks.dueRefusal("p7 onto a date of its own", planner, 1, 0,
                () -> planner.extend(0, 1, 1));
    }

    private static void remove() {
        CalendaryPlanner planner = new CalendaryPlanner();
        planner.ask(0, 0, 0, 0, 2);
        planner.extend(0, 1, 3);
        planner.ask(1, 0, 0, 0, 2);
        planner.cancel(0, 1);
        checks.due("p8 left", 1, planner.remove(0));
        checks.dueThrow("p8 again", planner, NO_SUCH, () -> planner.remove(0));
        checks.dueThrow("p8 not yet there", planner, NO_SUCH, () -> planner.remove(2));
        for (int day = 0; day < 4; day++) {
            checks.due("p8 the room is free on day " + day, 0, planner.usedTimes(0, day));
            checks.due("p8 the person is free on day " + day, 16, planner.freeTimes(0, day));
        }
        checks.due("p8 the other stays", 1, planner.meetingOf(1, 0, 1));
        checks.due("p8 none left", 0, planner.remove(1));
    }

    private static void answer() {
        CalendaryPlanner planner = new CalendaryPlanner();
        planner.ask(0, 2 | 4, 0, 0, 2);
        checks.due("p9 open at first", 'o', planner.answer(0, 1, 'y'));
        checks.due("p9 yes before", 'y', planner.answer(0, 1, 'o'));
        checks.due("p9 open before", 'o', planner.answer(0, 1, 'n'));
        checks.due("p9 expected after no", 2, planner.expected(0));
        checks.due("p9 no before", 'n', planner.answer(0, 1, 'n'));
        checks.due("p9 no before yes", 'n', planner.answer(0, 1, 'y'));
        checks.due("p9 expected after yes", 3, planner.expected(0));
        planner.answer(0, 2, 'n');
        checks.due("p9 no before open", 'n', planner.answer(0, 2, 'o'));
        checks.due("p9 expected after open", 3, planner.expected(0));
        checks.due("p9 the other's answer stays", 'y', planner.answerOf(0, 1));
        planner.setRoom(1, 0, 0);
        checks.due("p9 open to yes wants no seat", 'o', planner.answer(0, 2, 'y'));
    }

    private static void answerRefusedForSeats() {
        CalendaryPlanner planner = new CalendaryPlanner();
        planner.ask(0, 2, 0, 0, 1);
        planner.extend(0, 1, 2);
        planner.answer(0, 1, 'n');
        planner.move(0, 0, 3, 0);
        planner.setRoom(1, 1, 0);
        planner.move(0, 2, 3, 5);
        planner.ask(1, 0, 1, 0, 1);
        checks.due("p9 room 1 is the smallest then", 1, planner.roomOf(0, 2));
        checks.dueRefusal("p9 a seat goes before a clash of an earlier date", planner, 3, 2,
                () -> planner.answer(0, 1, 'y'));
        checks.dueRefusal("p9 no seat for open", planner, 3, 2, () -> planner.answer(0, 1, 'o'));
        planner.cancel(0, 2);
        checks.dueRefusal("p9 a cancelled date wants no seat", planner, 4, 1,
                () -> planner.answer(0, 1, 'o'));
        planner.cancel(0, 1);
        checks.due("p9 a cancelled date does not clash", 'n', planner.answer(0, 1, 'o'));
        planner.answer(0, 1, 'n');
        checks.due("p9 just one seat left", 'n', planner.answer(0, 1, 'y'));
        checks.due("p9 the refusal stays", "4 1", Seen.refusalOf(planner));
    }

    private static void answerRefusedForClash() {
        CalendaryPlanner planner = new CalendaryPlanner();
        planner.setGap(2);
        planner.ask(0, 2, 0, 4, 2);
        planner.extend(0, 1, 1);
        planner.answer(0, 1, 'n');
        planner.setRoom(0, 0, 0);
        planner.setRoom(1, 0, 0);
        checks.due("p9 in the other house", 2, planner.roomFor(2, 2, 1, 7));
        planner.ask(1, 0, 1, 7, 2);
        planner.setRoom(0, 2, 0);
        checks.dueRefusal("p9 no time to walk", planner, 4, 1, () -> planner.answer(0, 1, 'y'));
        planner.setGap(1);
        checks.due("p9 time enough to walk", 'n', planner.answer(0, 1, 'y'));
    }

    /** The dates of one meeting stood in one house when they were planned; then a room changes. */
    private static void answerRefusedForClashWithinTheMeeting() {
        CalendaryPlanner planner = new CalendaryPlanner();
        planner.ask(0, 2, 0, 0, 2);
        planner.extend(0, 1, 1);
        planner.ask(5, 0, 0, 2, 2);
        planner.move(0, 1, 0, 2);
        checks.due("p9 first date's room", 0, planner.roomOf(0, 0));
        checks.due("p9 second date's room", 1, planner.roomOf(0, 1));
        planner.answer(0, 1, 'n');
        planner.setRoom(1, 3, 1);
        checks.dueRefusal("p9 dates of one meeting clash", planner, 4, 0,
                () -> planner.answer(0, 1, 'y'));
        planner.setGap(0);
        checks.due("p9 no gap, no clash", 'n', planner.answer(0, 1, 'y'));
    }

    private static void cancel() {
        CalendaryPlanner planner = new CalendaryPlanner();
        planner.ask(0, 2, 0, 0, 2);
        planner.extend(0, 1, 2);
        checks.due("p10 dates left", 2, planner.cancel(0, 1));
        checks.due("p10 is cancelled", true, planner.isCancelled(0, 1));
        checks.due("p10 others are not", false, planner.isCancelled(0, 0));
        checks.due("p10 the people are free", true, planner.isFree(1, 1, 0));
        checks.due("p10 the room is free", 0, planner.usedTimes(0, 1));
        checks.dueThrow("p10 again", planner, STATE, () -> planner.cancel(0, 1));
        checks.due("p10 one left", 1, planner.cancel(0, 0));
        checks.due("p10 none left", 0, planner.cancel(0, 2));
        checks.due("p10 the meeting stays", 1, planner.meetingCount());
        checks.due("p10 its dates stay", 3, planner.dateCount(0));
    }

    private static void move() {
        CalendaryPlanner planner = new CalendaryPlanner();
        planner.ask(0, 2, 0, 0, 3);
        checks.due("p11 room", 0, planner.move(0, 0, 27, 13));
        checks.due("p11 day", 27, planner.dayOf(0, 0));
        checks.due("p11 time", 13, planner.timeOf(0, 0));
        checks.due("p11 free where it was", 16, planner.freeTimes(0, 0));
        checks.due("p11 used where it is", 3, planner.usedTimes(0, 27));
        checks.due("p11 over its own times", 0, planner.move(0, 0, 27, 12));
        planner.setRoom(0, 1, 0);
        checks.due("p11 a new room at the same time", 1, planner.move(0, 0, 27, 12));
        planner.cancel(0, 0);
        checks.due("p11 a cancelled date", 1, planner.move(0, 0, 27, 12));
        checks.due("p11 is not cancelled then", false, planner.isCancelled(0, 0));
        checks.due("p11 counts again", 3, planner.usedTimes(1, 27));
    }

    private static void moveRefused() {
        CalendaryPlanner planner = new CalendaryPlanner();
        planner.ask(0, 2 | 4, 0, 0, 2);
        planner.extend(0, 1, 1);
        planner.ask(2, 0, 5, 0, 2);
        checks.dueRefusal("p11 busy", planner, 1, 2, () -> planner.move(0, 1, 5, 1));
        checks.dueRefusal("p11 onto the other date", planner, 1, 0, () -> planner.move(0, 1, 0, 1));
        for (int room = 0; room < 4; room++) {
            planner.setRoom(room, 2, 0);
        }
        checks.dueRefusal("p11 no room", planner, 2, 1, () -> planner.move(0, 1, 9, 0));
        planner.cancel(0, 1);
        checks.dueRefusal("p11 no room, cancelled", planner, 2, 1, () -> planner.move(0, 1, 9, 0));
    }
}
