/** Promises 1 to 5; their bounds are in BoundsTest. */
public final class RoomsTest {
    private static final Checks checks = new Checks("RoomsTest");

    public static void main(String[] args) {
        aNewObject();
        setRoom();
        setGap();
        seatsOfAndHouseOf();
        checks.end();
    }

    private static void aNewObject() {
        CalendaryPlanner planner = new CalendaryPlanner();
        checks.due("p1 meetings at first", 0, planner.meetingCount());
        int[] seats = {2, 3, 4, 6};
        int[] houses = {0, 0, 1, 1};
        for (int room = 0; room < 4; room++) {
            checks.due("p1 seats at first of " + room, seats[room], planner.seatsOf(room));
            checks.due("p1 house at first of " + room, houses[room], planner.houseOf(room));
        }
        checks.due("p1 gap at first", 1, planner.setGap(1));
        CalendaryPlanner other = new CalendaryPlanner();
        planner.setRoom(0, 6, 1);
        planner.setGap(3);
        planner.ask(0, 0, 0, 0, 1);
        checks.due("p1 objects share no rooms", 2, other.seatsOf(0));
        checks.due("p1 objects share no gap", 1, other.setGap(0));
        checks.due("p1 objects share no meetings", 0, other.meetingCount());
        checks.due("p1 objects share no numbers", 0, other.ask(0, 0, 0, 0, 1));
    }

    private static void setRoom() {
        CalendaryPlanner planner = new CalendaryPlanner();
        int before = 4;
        for (int seats = 0; seats <= 6; seats++) {
            for (int house = 0; house <= 1; house++) {
                String what = seats + " seats in house " + house;
                checks.due("p2 before " + what, before, planner.setRoom(2, seats, house));
                checks.due("p2, p4 " + what, seats, planner.seatsOf(2));
                checks.due("p2, p5 " + what, house, planner.houseOf(2));
                before = seats;
            }
        }
        checks.due("p2 other rooms' seats stay", 3, planner.seatsOf(1));
        checks.due("p2 other rooms' houses stay", 0, planner.houseOf(1));

        CalendaryPlanner kept = new CalendaryPlanner();
        kept.ask(0, 2, 0, 0, 1);
        kept.setRoom(0, 0, 1);
        checks.due("p2 a date keeps its room", 0, kept.roomOf(0, 0));
        checks.due("p2 a date stays in its room", 1, kept.usedTimes(0, 0));
    }

    private static void setGap() {
        CalendaryPlanner planner = new CalendaryPlanner();
        int before = 1;
        for (int gap = 0; gap <= 3; gap++) {
            checks.due("p3 gap before " + gap, before, planner.setGap(gap));
            before = gap;
        }
        checks.due("p3 the same gap again", 3, planner.setGap(3));
        gapLeavesOutRooms();
    }

    /** The host 0 sits in room 3, house 1, up to time 1: house 0 is out of reach for gap times. */
    private static void gapLeavesOutRooms() {
        for (int gap = 0; gap <= 3; gap++) {
            CalendaryPlanner planner = new CalendaryPlanner();
            planner.setGap(gap);
            planner.ask(0, 62, 0, 0, 2);
            for (int time = 2; time <= 6; time++) {
                int due = time - 2 < gap ? 2 : 0;
                checks.due("p3 room at " + time + " with gap " + gap, due,
                        planner.roomFor(1, 1, 0, time));
            }
        }
    }

    private static void seatsOfAndHouseOf() {
        CalendaryPlanner planner = new CalendaryPlanner();
        for (int room = 0; room < 4; room++) {
            planner.setRoom(room, 5 - room, room % 2);
        }
        for (int room = 0; room < 4; room++) {
            checks.due("p4 seats of " + room, 5 - room, planner.seatsOf(room));
            checks.due("p5 house of " + room, room % 2, planner.houseOf(room));
        }
    }
}
