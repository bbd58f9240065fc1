/** Promises 1 to 5. */
public final class RoomsTest {
    private static final Class<IllegalArgumentException> ILLEGAL = IllegalArgumentException.class;
    private static final int[] OUT_OF_INT = {-1, Integer.MIN_VALUE, Integer.MAX_VALUE};

    private static final Checks checks = new Checks("RoomsTest");

    public static void main(String[] args) {
        aNewObject();
        setRoom();
        setGap();
        seatsOfAndHouseOf();
        checks.end();
    }

    private static void aNewObject() {
        CalendaryPlanner planner = new CalendaryPlanner();
        checks.due("p1 meetings at first", 0, planner.meetingCount());
        int[] seats = {2, 3, 4, 6};
        int[] houses = {0, 0, 1, 1};
        for (int room = 0; room < 4; room++) {
            checks.due("p1 seats at first of " + room, seats[room], planner.seatsOf(room));
            checks.due("p1 house at first of " + room, houses[room], planner.houseOf(room));
        }
        checks.due("p1 gap at first", 1, planner.setGap(1));
        CalendaryPlanner other = new CalendaryPlanner();
        planner.setRoom(0, 6, 1);
        planner.ask(0, 0, 0, 0, 1);
        checks.due("p1 objects share no rooms", 2, other.seatsOf(0));
        checks.due("p1 objects share no meetings", 0, other.meetingCount());
    }

    private static void setRoom() {
        CalendaryPlanner planner = new CalendaryPlanner();
        checks.due("p2 seats before", 4, planner.setRoom(2, 0, 0));
        checks.due("p2 seats before again", 0, planner.setRoom(2, 6, 1));
        checks.due("p2 seats set", 6, planner.seatsOf(2));
        checks.due("p2 house set", 1, planner.houseOf(2));
        checks.dueThrow("p2 room 4", ILLEGAL, () -> planner.setRoom(4, 1, 0));
        checks.dueThrow("p2 7 seats", ILLEGAL, () -> planner.setRoom(2, 7, 0));
        checks.dueThrow("p2 house 2", ILLEGAL, () -> planner.setRoom(2, 1, 2));
        for (int wrong : OUT_OF_INT) {
            checks.dueThrow("p2 room " + wrong, ILLEGAL, () -> planner.setRoom(wrong, 1, 0));
            checks.dueThrow("p2 seats " + wrong, ILLEGAL, () -> planner.setRoom(2, wrong, 0));
            checks.dueThrow("p2 house " + wrong, ILLEGAL, () -> planner.setRoom(2, 1, wrong));
        }
        checks.due("p2 seats kept when it threw", 6, planner.seatsOf(2));
        checks.due("p2 house kept when it threw", 1, planner.houseOf(2));
        checks.due("p2 other rooms kept", 3, planner.seatsOf(1));

        CalendaryPlanner kept = new CalendaryPlanner();
        kept.ask(0, 2, 0, 0, 1);
        kept.setRoom(0, 0, 1);
        checks.due("p2 a date keeps its room", 0, kept.roomOf(0, 0));
        checks.due("p2 a date stays in its room", 1, kept.usedTimes(0, 0));
    }

    private static void setGap() {
        CalendaryPlanner planner = new CalendaryPlanner();
        checks.due("p3 gap before", 1, planner.setGap(3));
        checks.due("p3 gap before again", 3, planner.setGap(0));
        checks.dueThrow("p3 gap 4", ILLEGAL, () -> planner.setGap(4));
        for (int wrong : OUT_OF_INT) {
            checks.dueThrow("p3 gap " + wrong, ILLEGAL, () -> planner.setGap(wrong));
        }
        checks.due("p3 gap kept when it threw", 0, planner.setGap(2));
        gapLeavesOutRooms();
    }

    /** The host 0 sits in room 3, house 1, up to time 1: house 0 is out of reach for gap times. */
    private static void gapLeavesOutRooms() {
        for (int gap = 0; gap <= 3; gap++) {
            CalendaryPlanner planner = new CalendaryPlanner();
            planner.setGap(gap);
            planner.ask(0, 62, 0, 0, 2);
            for (int time = 2; time <= 6; time++) {
                int due = time - 2 < gap ? 2 : 0;
                checks.due("p3 room at " + time + " with gap " + gap, due,
                        planner.roomFor(1, 1, 0, time));
            }
        }
    }

    private static void seatsOfAndHouseOf() {
        CalendaryPlanner planner = new CalendaryPlanner();
        planner.setRoom(1, 5, 1);
        checks.due("p4 seats", 5, planner.seatsOf(1));
        checks.due("p5 house", 1, planner.houseOf(1));
        checks.dueThrow("p4 room 4", ILLEGAL, () -> planner.seatsOf(4));
        checks.dueThrow("p5 room 4", ILLEGAL, () -> planner.houseOf(4));
        for (int wrong : OUT_OF_INT) {
            checks.dueThrow("p4 room " + wrong, ILLEGAL, () -> planner.seatsOf(wrong));
            checks.dueThrow("p5 room " + wrong, ILLEGAL, () -> planner.houseOf(wrong));
        }
    }
}
