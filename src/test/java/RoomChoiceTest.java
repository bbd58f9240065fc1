import java.util.Arrays;
import java.util.NoSuchElementException;

/** Promises 2, 3, 6, 7, 11 and 31: who clashes, which room fits, and which one a date gets. */
public final class RoomChoiceTest {
    private static final Checks checks = new Checks("RoomChoiceTest");

    private static final int HOUSE_OF_DATE = 1;

    public static void main(String[] args) {
        timesInCommonForPeople();
        timesInCommonForARoom();
        walksBetweenHouses();
        noWalksWithinAHouse();
        walksOnBothSides();
        whoDoesNotClash();
        seatsForEachNumberOfPeople();
        fewestSeatsAndLowestNumber();
        takenRoomsAreLeftOut();
        roomsAreKept();
        checks.end();
    }

    /** Only the room that is told has seats, six of them; all rooms are in its house. */
    private static void leaveOnly(CalendaryPlanner planner, int room, int house) {
        for (int other = 0; other < 4; other++) {
            planner.setRoom(other, other == room ? 6 : 0, house);
        }
    }

    private static boolean apart(int time, int length, int from, int to) {
        return time + length <= from || time >= to;
    }

    /** Person 2 has the times 6, 7 and 8; walks take no time. */
    private static void timesInCommonForPeople() {
        for (int length = 1; length <= 6; length++) {
            for (int time = 0; time + length <= 16; time++) {
                CalendaryPlanner planner = new CalendaryPlanner();
                planner.setGap(0);
                planner.ask(2, 0, 5, 6, 3);
                int at = time;
                int many = length;
                String what = "p6 times " + at + " to " + (at + many - 1);
                if (apart(time, length, 6, 9)) {
                    checks.due(what, 1, planner.ask(4, 4, 5, at, many));
                } else {
                    checks.dueRefusal(what, planner, 1, 2, () -> planner.ask(4, 4, 5, at, many));
                    checks.dueRefusal(what + " by a clash of the host", planner, 1, 2,
                            () -> planner.ask(2, 32, 5, at, many));
                }
                checks.due(what + " of the day before", planner.meetingCount(),
                        planner.ask(4, 4, 4, at, many));
            }
        }
    }

    /** The only room has the times 6, 7 and 8, for others. */
    private static void timesInCommonForARoom() {
        for (int length = 1; length <= 6; length++) {
            for (int time = 0; time + length <= 16; time++) {
                CalendaryPlanner planner = new CalendaryPlanner();
                leaveOnly(planner, 1, 0);
                planner.ask(2, 8, 5, 6, 3);
                int at = time;
                int many = length;
                String what = "p6 room at the times " + at + " to " + (at + many - 1);
                if (apart(time, length, 6, 9)) {
                    checks.due(what, 1, planner.ask(4, 1, 5, at, many));
                } else {
                    checks.dueRefusal(what, planner, 2, 0, () -> planner.ask(4, 1, 5, at, many));
                }
            }
        }
    }

    /** Person 2 has the times 6, 7 and 8 in house 1; only house 0 has a room for others. */
    private static CalendaryPlanner walker(int gap) {
        CalendaryPlanner planner = new CalendaryPlanner();
        planner.setGap(gap);
        leaveOnly(planner, 3, HOUSE_OF_DATE);
        planner.ask(2, 0, 5, 6, 3);
        leaveOnly(planner, 0, 0);
        planner.setRoom(3, 0, HOUSE_OF_DATE);
        return planner;
    }

    private static void walksBetweenHouses() {
        for (int gap = 0; gap <= 3; gap++) {
            for (int length = 1; length <= 6; length++) {
                for (int time = 0; time + length <= 16; time++) {
                    walkTo(gap, time, length);
                }
            }
        }
    }

    /** Extending, moving and finding a room want the same as asking does. */
    private static void walkTo(int gap, int time, int length) {
        CalendaryPlanner planner = walker(gap);
        String what = "gap " + gap + ", times " + time + " to " + (time + length - 1);
        boolean busy = !apart(time, length, 6, 9);
        planner.ask(4, 4, 3, time, length);
        if (apart(time, length, 6 - gap, 9 + gap)) {
            checks.due("p31 " + what, 0, planner.roomFor(20, length, 5, time));
            checks.due("p7 " + what, 2, planner.extend(1, 2, 1));
            planner.cancel(1, 1);
            checks.due("p11 " + what, 0, planner.move(1, 0, 5, time));
            planner.cancel(1, 0);
            checks.due("p6 " + what, 2, planner.ask(4, 4, 5, time, length));
        } else {
            int reason = busy ? 1 : 2;
            checks.dueThrow("p31 " + what, planner, NoSuchElementException.class,
                    () -> planner.roomFor(20, length, 5, time));
            checks.dueRefusal("p7 " + what, planner, reason, busy ? 2 : 1,
                    () -> planner.extend(1, 2, 1));
            checks.dueRefusal("p11 " + what, planner, reason, busy ? 2 : 0,
                    () -> planner.move(1, 0, 5, time));
            checks.dueRefusal("p6 " + what, planner, reason, busy ? 2 : 0,
                    () -> planner.ask(4, 4, 5, time, length));
        }
    }

    private static void noWalksWithinAHouse() {
        CalendaryPlanner planner = walker(3);
        planner.setRoom(0, 6, HOUSE_OF_DATE);
        checks.due("p6 right before, in the house", 1, planner.ask(2, 0, 5, 5, 1));
        checks.due("p6 right behind, in the house", 2, planner.ask(2, 0, 5, 9, 1));
        planner.setRoom(0, 6, 0);
        checks.due("p31 walks on another day", 0, planner.roomFor(4, 1, 6, 9));
        checks.dueRefusal("p6 houses count as they are then", planner, 2, 0,
                () -> planner.ask(2, 0, 5, 11, 1));
    }

    /** Person 2 is in house 1 at the times 4 and 11: a walk takes the times behind and before. */
    private static void walksOnBothSides() {
        for (int gap = 0; gap <= 3; gap++) {
            CalendaryPlanner planner = new CalendaryPlanner();
            planner.setGap(gap);
            leaveOnly(planner, 3, HOUSE_OF_DATE);
            planner.ask(2, 0, 5, 4, 1);
            planner.ask(2, 0, 5, 11, 1);
            leaveOnly(planner, 0, 0);
            planner.setRoom(3, 0, HOUSE_OF_DATE);
            int between = 6 - 2 * gap;
            int outside = Math.max(4 - gap, 0) + 4 - gap;
            checks.due("p30 gap " + gap, between + outside, planner.commonCount(4, 1, 5));
            checks.due("p26 walks do not count", 14, planner.freeTimes(2, 5));
            checks.due("p28 walks do not count", 6, planner.longestFree(2, 5));
            checks.due("p24 walks do not count", true, planner.isFree(2, 5, 5));
        }
    }

    private static void whoDoesNotClash() {
        CalendaryPlanner planner = walker(3);
        checks.dueRefusal("p6 who is expected clashes", planner, 2, 0,
                () -> planner.ask(1, 4, 5, 10, 1));
        checks.due("p6 others do not", 1, planner.ask(1, 2 | 8, 5, 10, 1));
        planner.remove(1);
        leaveOnly(planner, 3, HOUSE_OF_DATE);
        planner.ask(3, 2 | 4, 5, 0, 1);
        leaveOnly(planner, 0, 0);
        planner.setRoom(3, 0, HOUSE_OF_DATE);
        planner.answer(2, 2, 'n');
        checks.dueRefusal("p6 open is expected", planner, 2, 0, () -> planner.ask(1, 0, 5, 1, 1));
        checks.due("p6 no is not expected", 3, planner.ask(2, 0, 5, 1, 1));
        planner.cancel(2, 0);
        checks.due("p6 cancelled dates do not clash", 4, planner.ask(1, 0, 5, 0, 1));
        planner.remove(0);
        checks.due("p6 removed dates do not clash", 5, planner.ask(2, 0, 5, 6, 3));
    }

    private static void seatsForEachNumberOfPeople() {
        for (int seats = 0; seats <= 6; seats++) {
            for (int people = 1; people <= 6; people++) {
                CalendaryPlanner planner = new CalendaryPlanner();
                leaveOnly(planner, 2, 0);
                planner.setRoom(2, seats, 1);
                int others = (1 << people) - 2;
                String what = "p6 " + seats + " seats for " + people;
                if (seats >= people) {
                    checks.due(what, 0, planner.ask(0, others, 0, 0, 1));
                    checks.due(what + ": room", 2, planner.roomOf(0, 0));
                } else {
                    checks.dueRefusal(what, planner, 2, 0, () -> planner.ask(0, others, 0, 0, 1));
                }
            }
        }
    }

    /** For all seats that the four rooms can have. */
    private static void fewestSeatsAndLowestNumber() {
        CalendaryPlanner planner = new CalendaryPlanner();
        planner.ask(0, 62, 0, 0, 1);
        int[] seats = new int[4];
        for (int drawn = 0; drawn < 7 * 7 * 7 * 7; drawn++) {
            int rest = drawn;
            for (int room = 0; room < 4; room++) {
                seats[room] = rest % 7;
                rest /= 7;
                planner.setRoom(room, seats[room], room / 2);
            }
            for (int people = 1; people <= 6; people++) {
                chooseAmong(planner, seats, people);
            }
        }
    }

    private static void chooseAmong(CalendaryPlanner planner, int[] seats, int people) {
        Object due = NoSuchElementException.class;
        int fewest = 7;
        for (int room = 0; room < 4; room++) {
            if (seats[room] >= people && seats[room] < fewest) {
                due = room;
                fewest = seats[room];
            }
        }
        String what = "p31 " + people + " among " + Arrays.toString(seats);
        checks.due(what, due, Checks.outcome(() -> planner.roomFor((1 << people) - 1, 6, 9, 10)));
    }

    /** Rooms of equal seats are taken by the order of their numbers, until none is left. */
    private static void takenRoomsAreLeftOut() {
        CalendaryPlanner planner = new CalendaryPlanner();
        for (int room = 0; room < 4; room++) {
            planner.setRoom(room, 3, room / 2);
        }
        for (int host = 0; host < 4; host++) {
            checks.due("p31 the next room", host, planner.roomFor(1 << host, 2, 9, 7));
            planner.ask(host, 0, 9, 7, 2);
            checks.due("p6 the next room", host, planner.roomOf(host, 0));
        }
        checks.dueRefusal("p6 none left", planner, 2, 0, () -> planner.ask(4, 0, 9, 8, 1));
        checks.due("p6 right behind", 4, planner.ask(4, 0, 9, 9, 1));
        planner.cancel(1, 0);
        checks.due("p6 a cancelled date's room", 5, planner.ask(5, 0, 9, 8, 1));
        checks.due("p21 a cancelled date's room", 1, planner.roomOf(5, 0));
        checks.dueRefusal("p11 none left", planner, 2, 0, () -> planner.move(1, 0, 9, 7));
        planner.remove(3);
        checks.due("p11 a removed meeting's room", 3, planner.move(1, 0, 9, 7));
    }

    /** A date keeps its room, whatever changes later, until it is moved. */
    private static void roomsAreKept() {
        CalendaryPlanner planner = new CalendaryPlanner();
        planner.ask(0, 2 | 4, 0, 4, 2);
        planner.extend(0, 1, 2);
        planner.setRoom(1, 0, 1);
        checks.due("p21 no seat any more", 1, planner.roomOf(0, 0));
        planner.setRoom(0, 6, 0);
        checks.due("p21 another room fits", 1, planner.roomOf(0, 1));
        planner.answer(0, 1, 'n');
        planner.answer(0, 2, 'n');
        checks.due("p21 fewer people", 1, planner.roomOf(0, 2));
        planner.setGap(3);
        checks.due("p32 its times stay", 2, planner.usedTimes(1, 1));
        planner.setRoom(1, 6, 1);
        checks.due("p32 in the room", 2, planner.usedTimes(1, 2));
        checks.due("p11 moved to where it is", 2, planner.move(0, 1, 1, 4));
        checks.due("p21 the moved date", 2, planner.roomOf(0, 1));
        checks.due("p21 the others", 1, planner.roomOf(0, 2));
        checks.due("p7 a new date's room", 4, planner.extend(0, 1, 1));
        checks.due("p7 a new date's room", 2, planner.roomOf(0, 3));
    }
}
