import java.util.ArrayList;
import java.util.NoSuchElementException;

/**
 * A planner of meetings for six people, four rooms in two houses, and four weeks: meetings are
 * asked for as series of dates, answered, moved and cancelled date by date, and free times are
 * asked for.
 */
public final class CalendaryPlanner {
    private static final int PEOPLE = 6;
    private static final int ALL_PEOPLE = 63;
    private static final int HOUSES = 2;
    private static final int MOST_SEATS = 6;
    private static final int MOST_GAP = 3;
    private static final int DAYS = 28;
    private static final int TIMES = 16;
    private static final int MOST_LENGTH = 6;
    private static final int MOST_MEETINGS = 8;
    private static final int MOST_DATES = 6;
    private static final int MOST_NEW_DATES = 5;
    private static final int MOST_DAYS_BEHIND = 14;

    private static final char HOST = 'h';
    private static final char NOT_ASKED = '-';
    private static final char OPEN = 'o';
    private static final char YES = 'y';
    private static final char NO = 'n';

    private static final int NOTHING_REFUSED = 0;
    private static final int PERSON_BUSY = 1;
    private static final int NO_ROOM_FITS = 2;
    private static final int NO_SEAT_LEFT = 3;
    private static final int PERSON_CLASHES = 4;

    private static final class Room {
        final int number;
        int seats;
        int house;

        Room(int number, int seats, int house) {
            this.number = number;
            this.seats = seats;
            this.house = house;
        }
    }

    /** Times of a day that follow one another: those of a date, or some that are only tried. */
    private static final class Slot {
        int day;
        int time;
        final int length;

        Slot(int day, int time, int length) {
            this.day = day;
            this.time = time;
            this.length = length;
        }

        int end() {
            return time + length;
        }

        boolean holds(int otherTime) {
            return time <= otherTime && otherTime < end();
        }

        /** On one day, this is negative just if the two have a time in common. */
        int timesBetween(Slot other) {
            return Math.max(time - other.end(), other.time - end());
        }
    }

    private static final class Date {
        final Meeting meeting;
        Slot slot;
        Room room;
        boolean cancelled;

        Date(Meeting meeting, Slot slot, Room room) {
            this.meeting = meeting;
            this.slot = slot;
            this.room = room;
        }
    }

    /** Its sets of people hold the bit of each person, as the face's sums of powers do. */
    private static final class Meeting {
        final int number;
        final int host;
        final int asked;
        final ArrayList<Date> dates;
        int yes;
        int no;

        Meeting(int number, int host, int asked) {
            this.number = number;
            this.host = host;
            this.asked = asked;
            this.dates = new ArrayList<>();
        }

        int expectedPeople() {
            return bitOf(host) | (asked & ~no);
        }

        int expectedCount() {
            return Integer.bitCount(expectedPeople());
        }

        boolean expects(int person) {
            return holdsPerson(expectedPeople(), person);
        }

        char answerFrom(int person) {
            if (person == host) {
                return HOST;
            }
            if (!holdsPerson(asked, person)) {
                return NOT_ASKED;
            }
            if (holdsPerson(yes, person)) {
                return YES;
            }
            return holdsPerson(no, person) ? NO : OPEN;
        }

        void note(int person, char answer) {
            int bit = bitOf(person);
            yes = answer == YES ? yes | bit : yes & ~bit;
            no = answer == NO ? no | bit : no & ~bit;
        }

        int standingDates() {
            int standing = 0;
            for (int i = 0; i < dates.size(); i++) {
                if (!dates.get(i).cancelled) {
                    standing++;
                }
            }
            return standing;
        }

        int standingTimes() {
            int times = 0;
            for (int i = 0; i < dates.size(); i++) {
                Date date = dates.get(i);
                if (!date.cancelled) {
                    times += date.slot.length;
                }
            }
            return times;
        }
    }

    /** The dates of one day that are not cancelled, kept in the order of their first times. */
    private static final class Day {
        final ArrayList<Date> dates;

        Day() {
            this.dates = new ArrayList<>();
        }

        void take(Date date) {
            int rank = 0;
            while (rank < dates.size() && dates.get(rank).slot.time < date.slot.time) {
                rank++;
            }
            dates.add(rank, date);
        }

        void drop(Date date) {
            for (int i = 0; i < dates.size(); i++) {
                if (dates.get(i) == date) {
                    dates.remove(i);
                    return;
                }
            }
        }
    }

    private final Room[] rooms;
    private final Day[] days;
    private final ArrayList<Meeting> meetings;
    private int gap;
    private int nextNumber;
    private int latestReason;
    private int latestDetail;

    public CalendaryPlanner() {
        rooms = new Room[] {
            new Room(0, 2, 0), new Room(1, 3, 0), new Room(2, 4, 1), new Room(3, 6, 1)
        };
        days = new Day[DAYS];
        for (int day = 0; day < days.length; day++) {
            days[day] = new Day();
        }
        meetings = new ArrayList<>();
        gap = 1;
        nextNumber = 0;
        latestReason = NOTHING_REFUSED;
        latestDetail = 0;
    }

    // Rooms.

    public int setRoom(int room, int seats, int house) throws IllegalArgumentException {
        Room changed = roomWith(room);
        requireWithin(seats, 0, MOST_SEATS);
        requireWithin(house, 0, HOUSES - 1);
        int before = changed.seats;
        changed.seats = seats;
        changed.house = house;
        return before;
    }

    public int setGap(int gap) throws IllegalArgumentException {
        requireWithin(gap, 0, MOST_GAP);
        int before = this.gap;
        this.gap = gap;
        return before;
    }

    public int seatsOf(int room) throws IllegalArgumentException {
        return roomWith(room).seats;
    }

    public int houseOf(int room) throws IllegalArgumentException {
        return roomWith(room).house;
    }

    // Meetings.

    public int ask(int host, int others, int day, int time, int length)
            throws IllegalArgumentException, IllegalStateException, UnsupportedOperationException {
        requirePerson(host);
        requireWithin(others, 0, ALL_PEOPLE);
        requireSlot(day, time, length);
        if (meetings.size() >= MOST_MEETINGS) {
            throw new IllegalStateException("there are 8 meetings");
        }
        Meeting meeting = new Meeting(nextNumber, host, others & ~bitOf(host));
        ArrayList<Slot> slots = new ArrayList<>();
        slots.add(new Slot(day, time, length));
        planDates(meeting, slots);
        meetings.add(meeting);
        nextNumber++;
        return meeting.number;
    }

    public int extend(int meeting, int days, int dates)
            throws NoSuchElementException, IllegalArgumentException, IllegalStateException,
            UnsupportedOperationException {
        Meeting extended = meetingWith(meeting);
        requireWithin(days, 1, MOST_DAYS_BEHIND);
        requireWithin(dates, 1, MOST_NEW_DATES);
        Slot last = dateWith(extended, extended.dates.size() - 1).slot;
        requireDay(last.day + days * dates);
        if (extended.dates.size() + dates > MOST_DATES) {
            throw new IllegalStateException("a meeting has at most 6 dates");
        }
        ArrayList<Slot> slots = new ArrayList<>();
        for (int i = 1; i <= dates; i++) {
            slots.add(new Slot(last.day + i * days, last.time, last.length));
        }
        planDates(extended, slots);
        return extended.dates.size();
    }

    public int remove(int meeting) throws NoSuchElementException {
        int rank = rankOf(meeting);
        Meeting removed = meetings.get(rank);
        for (int i = 0; i < removed.dates.size(); i++) {
            takeOffItsDay(removed.dates.get(i));
        }
        meetings.remove(rank);
        return meetings.size();
    }

    public char answer(int meeting, int person, char answer)
            throws NoSuchElementException, IllegalArgumentException, IllegalStateException,
            UnsupportedOperationException {
        Meeting answered = meetingWith(meeting);
        requirePerson(person);
        if (answer != YES && answer != NO && answer != OPEN) {
            throw new IllegalArgumentException("no such answer");
        }
        if (!holdsPerson(answered.asked, person)) {
            throw new IllegalStateException("the person is the host, or was not asked");
        }
        char before = answered.answerFrom(person);
        if (before == NO && answer != NO) {
            requireSeatsLeft(answered);
            requireNoClashFor(person, answered);
        }
        answered.note(person, answer);
        return before;
    }

    public int cancel(int meeting, int date)
            throws NoSuchElementException, IndexOutOfBoundsException, IllegalStateException {
        Meeting owner = meetingWith(meeting);
        Date cancelled = standingDateWith(owner, date);
        takeOffItsDay(cancelled);
        cancelled.cancelled = true;
        return owner.standingDates();
    }

    public int move(int meeting, int date, int day, int time)
            throws NoSuchElementException, IndexOutOfBoundsException, IllegalArgumentException,
            UnsupportedOperationException {
        Meeting owner = meetingWith(meeting);
        Date moved = dateWith(owner, date);
        requireSlot(day, time, moved.slot.length);
        Slot slot = new Slot(day, time, moved.slot.length);
        requireNobodyBusy(owner, slot, moved);
        Room room = requireRoom(owner, date, slot, moved);
        takeOffItsDay(moved);
        moved.slot = slot;
        moved.room = room;
        moved.cancelled = false;
        putOnItsDay(moved);
        return room.number;
    }

    public int meetingCount() {
        return meetings.size();
    }

    public int meetingAt(int rank) throws NoSuchElementException {
        if (rank < 0 || rank >= meetings.size()) {
            throw new NoSuchElementException("no such rank");
        }
        return meetings.get(rank).number;
    }

    public int hostOf(int meeting) throws NoSuchElementException {
        return meetingWith(meeting).host;
    }

    public char answerOf(int meeting, int person)
            throws NoSuchElementException, IllegalArgumentException {
        Meeting answered = meetingWith(meeting);
        requirePerson(person);
        return answered.answerFrom(person);
    }

    public int expected(int meeting) throws NoSuchElementException {
        return meetingWith(meeting).expectedCount();
    }

    public int dateCount(int meeting) throws NoSuchElementException {
        return meetingWith(meeting).dates.size();
    }

    public int dayOf(int meeting, int date)
            throws NoSuchElementException, IndexOutOfBoundsException {
        return dateWith(meetingWith(meeting), date).slot.day;
    }

    public int timeOf(int meeting, int date)
            throws NoSuchElementException, IndexOutOfBoundsException {
        return dateWith(meetingWith(meeting), date).slot.time;
    }

    public boolean isCancelled(int meeting, int date)
            throws NoSuchElementException, IndexOutOfBoundsException {
        return dateWith(meetingWith(meeting), date).cancelled;
    }

    public int roomOf(int meeting, int date)
            throws NoSuchElementException, IndexOutOfBoundsException, IllegalStateException {
        return standingDateWith(meetingWith(meeting), date).room.number;
    }

    public int refusalReason() throws NoSuchElementException {
        requireRefusal();
        return latestReason;
    }

    public int refusalDetail() throws NoSuchElementException {
        requireRefusal();
        return latestDetail;
    }

    // Free times.

    public boolean isFree(int person, int day, int time) throws IllegalArgumentException {
        requirePerson(person);
        requireSlot(day, time, 1);
        return dateOfPersonAt(person, day, time) == null;
    }

    public int meetingOf(int person, int day, int time)
            throws IllegalArgumentException, NoSuchElementException {
        requirePerson(person);
        requireSlot(day, time, 1);
        Date date = dateOfPersonAt(person, day, time);
        if (date == null) {
            throw new NoSuchElementException("the person is free");
        }
        return date.meeting.number;
    }

    public int freeTimes(int person, int day) throws IllegalArgumentException {
        requirePerson(person);
        requireDay(day);
        return countFreeBySweep(person, day);
    }

    public int freeByTrying(int person, int day) throws IllegalArgumentException {
        requirePerson(person);
        requireDay(day);
        return countFreeByTrying(person, day);
    }

    public int longestFree(int person, int day) throws IllegalArgumentException {
        requirePerson(person);
        requireDay(day);
        int longest = 0;
        int free = 0;
        for (int time = 0; time < TIMES; time++) {
            free = dateOfPersonAt(person, day, time) == null ? free + 1 : 0;
            longest = Math.max(longest, free);
        }
        return longest;
    }

    public int firstCommon(int people, int length, int day)
            throws IllegalArgumentException, NoSuchElementException {
        requireWithin(people, 1, ALL_PEOPLE);
        requireSlot(day, 0, length);
        Slot tried = new Slot(day, 0, length);
        for (int later = day; later < DAYS; later++) {
            tried.day = later;
            for (int time = 0; time <= TIMES - length; time++) {
                tried.time = time;
                if (commonRoom(people, tried) != null) {
                    return TIMES * later + time;
                }
            }
        }
        throw new NoSuchElementException("no common time up to day 27");
    }

    public int commonCount(int people, int length, int day) throws IllegalArgumentException {
        requireWithin(people, 1, ALL_PEOPLE);
        requireSlot(day, 0, length);
        Slot tried = new Slot(day, 0, length);
        int count = 0;
        for (int time = 0; time <= TIMES - length; time++) {
            tried.time = time;
            if (commonRoom(people, tried) != null) {
                count++;
            }
        }
        return count;
    }

    public int roomFor(int people, int length, int day, int time)
            throws IllegalArgumentException, NoSuchElementException {
        requireWithin(people, 1, ALL_PEOPLE);
        requireSlot(day, time, length);
        Room room = commonRoom(people, new Slot(day, time, length));
        if (room == null) {
            throw new NoSuchElementException("they cannot meet then");
        }
        return room.number;
    }

    // Days and shares.

    public int usedTimes(int room, int day) throws IllegalArgumentException {
        Room used = roomWith(room);
        ArrayList<Date> dates = dayWith(day).dates;
        int times = 0;
        for (int i = 0; i < dates.size(); i++) {
            Date date = dates.get(i);
            if (date.room == used) {
                times += date.slot.length;
            }
        }
        return times;
    }

    public int walks(int person, int day) throws IllegalArgumentException {
        requirePerson(person);
        ArrayList<Date> dates = dayWith(day).dates;
        int walks = 0;
        Date before = null;
        for (int i = 0; i < dates.size(); i++) {
            Date date = dates.get(i);
            if (date.meeting.expects(person)) {
                if (before != null && before.room.house != date.room.house) {
                    walks++;
                }
                before = date;
            }
        }
        return walks;
    }

    public long sittings() {
        long sum = 0;
        for (int i = 0; i < meetings.size(); i++) {
            Meeting meeting = meetings.get(i);
            sum += (long) meeting.standingTimes() * meeting.expectedCount();
        }
        return sum;
    }

    public double meanExpected() throws ArithmeticException {
        int count = meetings.size();
        if (count == 0) {
            throw new ArithmeticException("no meetings");
        }
        int sum = 0;
        for (int i = 0; i < count; i++) {
            sum += meetings.get(i).expectedCount();
        }
        return (double) sum / (double) count;
    }

    public float yesShare() throws ArithmeticException {
        int yes = 0;
        int no = 0;
        for (int i = 0; i < meetings.size(); i++) {
            Meeting meeting = meetings.get(i);
            yes += Integer.bitCount(meeting.yes);
            no += Integer.bitCount(meeting.no);
        }
        if (yes + no == 0) {
            throw new ArithmeticException("neither yes nor no");
        }
        return (float) yes / (float) (yes + no);
    }

    public boolean isConsistent() {
        for (int day = 0; day < DAYS; day++) {
            if (hasDoubleUse(day) || !countsAgree(day)) {
                return false;
            }
        }
        return true;
    }

    // What the face's calls require of their arguments.

    private static void requireWithin(int number, int least, int most)
            throws IllegalArgumentException {
        if (number < least || number > most) {
            throw new IllegalArgumentException("a number is out of range");
        }
    }

    private static void requirePerson(int person) throws IllegalArgumentException {
        requireWithin(person, 0, PEOPLE - 1);
    }

    private static void requireDay(int day) throws IllegalArgumentException {
        requireWithin(day, 0, DAYS - 1);
    }

    /** Tests the time and the length first, so that their sum cannot wrap around. */
    private static void requireSlot(int day, int time, int length)
            throws IllegalArgumentException {
        requireDay(day);
        requireWithin(time, 0, TIMES - 1);
        requireWithin(length, 1, MOST_LENGTH);
        requireWithin(time + length, 1, TIMES);
    }

    private void requireRefusal() throws NoSuchElementException {
        if (latestReason == NOTHING_REFUSED) {
            throw new NoSuchElementException("nothing was refused");
        }
    }

    // Finding what a number stands for.

    private Room roomWith(int number) throws IllegalArgumentException {
        if (number < 0 || number >= rooms.length) {
            throw new IllegalArgumentException("no such room");
        }
        return rooms[number];
    }

    private Day dayWith(int number) throws IllegalArgumentException {
        if (number < 0 || number >= days.length) {
            throw new IllegalArgumentException("no such day");
        }
        return days[number];
    }

    private int rankOf(int meeting) throws NoSuchElementException {
        for (int rank = 0; rank < meetings.size(); rank++) {
            if (meetings.get(rank).number == meeting) {
                return rank;
            }
        }
        throw new NoSuchElementException("no such meeting");
    }

    private Meeting meetingWith(int number) throws NoSuchElementException {
        return meetings.get(rankOf(number));
    }

    private static Date dateWith(Meeting meeting, int index) throws IndexOutOfBoundsException {
        if (index < 0 || index >= meeting.dates.size()) {
            throw new IndexOutOfBoundsException("no such date");
        }
        return meeting.dates.get(index);
    }

    private static Date standingDateWith(Meeting meeting, int index)
            throws IndexOutOfBoundsException, IllegalStateException {
        Date date = dateWith(meeting, index);
        if (date.cancelled) {
            throw new IllegalStateException("the date is cancelled");
        }
        return date;
    }

    // Sets of people.

    private static int bitOf(int person) {
        return 1 << person;
    }

    private static boolean holdsPerson(int people, int person) {
        return (people & bitOf(person)) != 0;
    }

    private static int lowestPerson(int people) {
        int person = 0;
        while (person < PEOPLE - 1 && !holdsPerson(people, person)) {
            person++;
        }
        return person;
    }

    // Planning, where a date that is left out counts as if it were not there.

    /**
     * The new dates are on different days, so that none of them stands in another's way: they can
     * all be tried before the first is put on its day, and a refusal has nothing to take back.
     */
    private void planDates(Meeting meeting, ArrayList<Slot> slots)
            throws UnsupportedOperationException {
        for (int i = 0; i < slots.size(); i++) {
            requireNobodyBusy(meeting, slots.get(i), null);
        }
        ArrayList<Date> planned = new ArrayList<>();
        for (int i = 0; i < slots.size(); i++) {
            Slot slot = slots.get(i);
            Room room = requireRoom(meeting, meeting.dates.size() + i, slot, null);
            planned.add(new Date(meeting, slot, room));
        }
        for (int i = 0; i < planned.size(); i++) {
            Date date = planned.get(i);
            meeting.dates.add(date);
            putOnItsDay(date);
        }
    }

    private void putOnItsDay(Date date) {
        dayWith(date.slot.day).take(date);
    }

    private void takeOffItsDay(Date date) {
        dayWith(date.slot.day).drop(date);
    }

    private void noteRefusal(int reason, int detail) {
        latestReason = reason;
        latestDetail = detail;
    }

    private void requireNobodyBusy(Meeting meeting, Slot slot, Date leftOut)
            throws UnsupportedOperationException {
        int busy = busyPeople(slot, leftOut) & meeting.expectedPeople();
        if (busy != 0) {
            noteRefusal(PERSON_BUSY, lowestPerson(busy));
            throw new UnsupportedOperationException("a person has another date");
        }
    }

    private Room requireRoom(Meeting meeting, int index, Slot slot, Date leftOut)
            throws UnsupportedOperationException {
        Room room = bestRoom(meeting.expectedPeople(), slot, leftOut);
        if (room == null) {
            noteRefusal(NO_ROOM_FITS, index);
            throw new UnsupportedOperationException("no room fits");
        }
        return room;
    }

    private void requireSeatsLeft(Meeting meeting) throws UnsupportedOperationException {
        int expectedCount = meeting.expectedCount();
        for (int i = 0; i < meeting.dates.size(); i++) {
            Date date = meeting.dates.get(i);
            if (!date.cancelled && date.room.seats <= expectedCount) {
                noteRefusal(NO_SEAT_LEFT, i);
                throw new UnsupportedOperationException("no seat is left");
            }
        }
    }

    private void requireNoClashFor(int person, Meeting meeting)
            throws UnsupportedOperationException {
        for (int i = 0; i < meeting.dates.size(); i++) {
            Date date = meeting.dates.get(i);
            if (!date.cancelled
                    && wouldClash(bitOf(person), meeting, date.slot, date.room, date)) {
                noteRefusal(PERSON_CLASHES, i);
                throw new UnsupportedOperationException("the person would have a clash");
            }
        }
    }

    private int busyPeople(Slot slot, Date leftOut) {
        ArrayList<Date> dates = dayWith(slot.day).dates;
        int busy = 0;
        for (int i = 0; i < dates.size(); i++) {
            Date date = dates.get(i);
            if (date != leftOut && date.slot.timesBetween(slot) < 0) {
                busy |= date.meeting.expectedPeople();
            }
        }
        return busy;
    }

    private Room bestRoom(int people, Slot slot, Date leftOut) {
        int needed = Integer.bitCount(people);
        Room best = null;
        for (int i = 0; i < rooms.length; i++) {
            Room room = rooms[i];
            boolean better = best == null || room.seats < best.seats;
            if (better && room.seats >= needed && !isTaken(room, slot, leftOut)
                    && !wouldClash(people, null, slot, room, leftOut)) {
                best = room;
            }
        }
        return best;
    }

    private boolean isTaken(Room room, Slot slot, Date leftOut) {
        ArrayList<Date> dates = dayWith(slot.day).dates;
        for (int i = 0; i < dates.size(); i++) {
            Date date = dates.get(i);
            if (date != leftOut && date.room == room && date.slot.timesBetween(slot) < 0) {
                return true;
            }
        }
        return false;
    }

    /**
     * Whether one of these people would have a clash by being in the room at these times. All of
     * them count as expected at the dates of the meeting that they join, whatever its answers are.
     */
    private boolean wouldClash(int people, Meeting joined, Slot slot, Room room, Date leftOut) {
        ArrayList<Date> dates = dayWith(slot.day).dates;
        for (int i = 0; i < dates.size(); i++) {
            Date date = dates.get(i);
            Meeting other = date.meeting;
            boolean shared = other == joined || (other.expectedPeople() & people) != 0;
            int between = date.slot.timesBetween(slot);
            boolean tooNear = between < 0 || (date.room.house != room.house && between < gap);
            if (date != leftOut && shared && tooNear) {
                return true;
            }
        }
        return false;
    }

    // Free times and consistency.

    private Date dateOfPersonAt(int person, int day, int time) {
        ArrayList<Date> dates = dayWith(day).dates;
        for (int i = 0; i < dates.size(); i++) {
            Date date = dates.get(i);
            if (date.slot.holds(time) && date.meeting.expects(person)) {
                return date;
            }
        }
        return null;
    }

    private int countFreeBySweep(int person, int day) {
        ArrayList<Date> dates = dayWith(day).dates;
        int free = 0;
        int swept = 0;
        for (int i = 0; i < dates.size(); i++) {
            Date date = dates.get(i);
            if (date.meeting.expects(person)) {
                free += Math.max(date.slot.time - swept, 0);
                swept = Math.max(date.slot.end(), swept);
            }
        }
        return free + TIMES - swept;
    }

    private int countFreeByTrying(int person, int day) {
        int free = 0;
        for (int time = 0; time < TIMES; time++) {
            if (dateOfPersonAt(person, day, time) == null) {
                free++;
            }
        }
        return free;
    }

    /** The room in which people can meet then, or null. */
    private Room commonRoom(int people, Slot slot) {
        return (busyPeople(slot, null) & people) != 0 ? null : bestRoom(people, slot, null);
    }

    private boolean hasDoubleUse(int day) {
        ArrayList<Date> dates = dayWith(day).dates;
        for (int i = 0; i < dates.size(); i++) {
            Date date = dates.get(i);
            int doubled = busyPeople(date.slot, date) & date.meeting.expectedPeople();
            if (doubled != 0 || isTaken(date.room, date.slot, date)) {
                return true;
            }
        }
        return false;
    }

    private boolean countsAgree(int day) {
        for (int person = 0; person < PEOPLE; person++) {
            if (countFreeBySweep(person, day) != countFreeByTrying(person, day)) {
                return false;
            }
        }
        return true;
    }
}
