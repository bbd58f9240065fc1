import java.util.ArrayList;
import java.util.List;
import java.util.NoSuchElementException;
import java.util.TreeMap;
import java.util.TreeSet;

/**
 * The document's terms again, for comparison with CalendaryPlanner: slow, and written another way.
 * It has no days with lists and no sums of powers inside, but sets of people and of times, and
 * goes through all dates of all meetings whenever it is asked.
 */
public final class PlainPlanner {
    private static final class PlainDate {
        int day;
        int time;
        int room;
        boolean cancelled;

        PlainDate(int day, int time, int room) {
            this.day = day;
            this.time = time;
            this.room = room;
        }
    }

    private static final class PlainMeeting {
        int host;
        int length;
        TreeMap<Integer, Character> answers = new TreeMap<>();
        List<PlainDate> dates = new ArrayList<>();

        TreeSet<Integer> expected() {
            TreeSet<Integer> people = new TreeSet<>();
            people.add(host);
            answers.forEach((person, answer) -> {
                if (answer != 'n') {
                    people.add(person);
                }
            });
            return people;
        }
    }

    private final int[] seats = {2, 3, 4, 6};
    private final int[] houses = {0, 0, 1, 1};
    private int gap = 1;
    private int next = 0;
    private int reason = 0;
    private int detail = 0;
    private final TreeMap<Integer, PlainMeeting> meetings = new TreeMap<>();

    private static void legal(boolean holds) {
        if (!holds) {
            throw new IllegalArgumentException();
        }
    }

    private static boolean within(int n, int least, int most) {
        return least <= n && n <= most;
    }

    private static void legalDay(int person, int day) {
        legal(within(person, 0, 5) && within(day, 0, 27));
    }

    private PlainMeeting meeting(int number) {
        PlainMeeting found = meetings.get(number);
        if (found == null) {
            throw new NoSuchElementException();
        }
        return found;
    }

    private PlainDate date(int number, int index) {
        PlainMeeting of = meeting(number);
        if (!within(index, 0, of.dates.size() - 1)) {
            throw new IndexOutOfBoundsException();
        }
        return of.dates.get(index);
    }

    private UnsupportedOperationException refused(int why, int what) {
        reason = why;
        detail = what;
        return new UnsupportedOperationException();
    }

    private static TreeSet<Integer> times(int time, int length) {
        TreeSet<Integer> times = new TreeSet<>();
        for (int i = 0; i < length; i++) {
            times.add(time + i);
        }
        return times;
    }

    private static boolean meet(TreeSet<Integer> some, TreeSet<Integer> others) {
        return some.stream().anyMatch(others::contains);
    }

    private static TreeSet<Integer> people(int sum) {
        TreeSet<Integer> people = new TreeSet<>();
        for (int person = 0; person < 6; person++) {
            if (sum / (1 << person) % 2 == 1) {
                people.add(person);
            }
        }
        return people;
    }

    private static int timesBetween(TreeSet<Integer> some, TreeSet<Integer> others) {
        return some.first() > others.last()
                ? some.first() - others.last() - 1
                : others.first() - some.last() - 1;
    }

    /** The meeting that keeps the person at one of these times, or null. */
    private Integer keeping(int person, int day, TreeSet<Integer> times, PlainDate except) {
        for (var entry : meetings.entrySet()) {
            PlainMeeting m = entry.getValue();
            for (PlainDate d : m.dates) {
                if (d != except && !d.cancelled && d.day == day && m.expected().contains(person)
                        && meet(times(d.time, m.length), times)) {
                    return entry.getKey();
                }
            }
        }
        return null;
    }

    private boolean clashes(int person, PlainMeeting m, PlainDate d, int day,
            TreeSet<Integer> times, int house) {
        TreeSet<Integer> others = times(d.time, m.length);
        if (d.cancelled || d.day != day || !m.expected().contains(person)) {
            return false;
        }
        return meet(others, times)
                || (houses[d.room] != house && timesBetween(others, times) < gap);
    }

    private boolean fits(int room, TreeSet<Integer> who, int day, TreeSet<Integer> times,
            PlainDate except) {
        if (seats[room] < who.size()) {
            return false;
        }
        for (PlainMeeting m : meetings.values()) {
            for (PlainDate d : m.dates) {
                if (d == except || d.cancelled) {
                    continue;
                }
                if (d.day == day && d.room == room && meet(times(d.time, m.length), times)) {
                    return false;
                }
                for (int person : who) {
                    if (clashes(person, m, d, day, times, houses[room])) {
                        return false;
                    }
                }
            }
        }
        return true;
    }

    private int room(TreeSet<Integer> who, int day, TreeSet<Integer> times, PlainDate except) {
        for (int wanted = 0; wanted <= 6; wanted++) {
            for (int room = 0; room < 4; room++) {
                if (seats[room] == wanted && fits(room, who, day, times, except)) {
                    return room;
                }
            }
        }
        return -1;
    }

    private void refuseBusy(TreeSet<Integer> who, int day, TreeSet<Integer> times,
            PlainDate except) {
        for (int person : who) {
            if (keeping(person, day, times, except) != null) {
                throw refused(1, person);
            }
        }
    }

    private void plan(PlainMeeting m, int day, int time, int step, int count) {
        for (int i = 0; i < count; i++) {
            refuseBusy(m.expected(), day + i * step, times(time, m.length), null);
        }
        List<PlainDate> planned = new ArrayList<>();
        for (int i = 0; i < count; i++) {
            int room = room(m.expected(), day + i * step, times(time, m.length), null);
            if (room < 0) {
                throw refused(2, m.dates.size() + i);
            }
            planned.add(new PlainDate(day + i * step, time, room));
        }
        m.dates.addAll(planned);
    }

    public int setRoom(int room, int newSeats, int house) {
        legal(within(room, 0, 3) && within(newSeats, 0, 6) && within(house, 0, 1));
        int before = seats[room];
        seats[room] = newSeats;
        houses[room] = house;
        return before;
    }

    public int setGap(int newGap) {
        legal(within(newGap, 0, 3));
        int before = gap;
        gap = newGap;
        return before;
    }

    public int seatsOf(int room) {
        legal(within(room, 0, 3));
        return seats[room];
    }

    public int houseOf(int room) {
        legal(within(room, 0, 3));
        return houses[room];
    }

    public int ask(int host, int others, int day, int time, int length) {
        legalDay(host, day);
        legal(within(others, 0, 63) && within(time, 0, 15) && within(length, 1, 6)
                && within(time + length - 1, 0, 15));
        if (meetings.size() == 8) {
            throw new IllegalStateException();
        }
        PlainMeeting m = new PlainMeeting();
        m.host = host;
        m.length = length;
        for (int person : people(others)) {
            if (person != host) {
                m.answers.put(person, 'o');
            }
        }
        plan(m, day, time, 0, 1);
        meetings.put(next, m);
        return next++;
    }

    public int extend(int number, int days, int dates) {
        PlainMeeting m = meeting(number);
        PlainDate last = m.dates.get(m.dates.size() - 1);
        legal(within(days, 1, 14) && within(dates, 1, 5) && last.day + days * dates <= 27);
        if (m.dates.size() + dates > 6) {
            throw new IllegalStateException();
        }
        plan(m, last.day + days, last.time, days, dates);
        return m.dates.size();
    }

    public int remove(int number) {
        meeting(number);
        meetings.remove(number);
        return meetings.size();
    }

    public char answer(int number, int person, char answer) {
        PlainMeeting m = meeting(number);
        legal(within(person, 0, 5) && "yno".indexOf(answer) >= 0);
        if (!m.answers.containsKey(person)) {
            throw new IllegalStateException();
        }
        char before = m.answers.get(person);
        if (before == 'n' && answer != 'n') {
            for (PlainDate d : m.dates) {
                if (!d.cancelled && seats[d.room] < m.expected().size() + 1) {
                    throw refused(3, m.dates.indexOf(d));
                }
            }
            m.answers.put(person, 'o');
            int clash = firstClash(person, m);
            m.answers.put(person, 'n');
            if (clash >= 0) {
                throw refused(4, clash);
            }
        }
        m.answers.put(person, answer);
        return before;
    }

    private int firstClash(int person, PlainMeeting m) {
        for (PlainDate own : m.dates) {
            for (PlainMeeting other : meetings.values()) {
                for (PlainDate d : other.dates) {
                    if (d != own && !own.cancelled && clashes(person, other, d, own.day,
                            times(own.time, m.length), houses[own.room])) {
                        return m.dates.indexOf(own);
                    }
                }
            }
        }
        return -1;
    }

    public int cancel(int number, int index) {
        PlainDate d = date(number, index);
        if (d.cancelled) {
            throw new IllegalStateException();
        }
        d.cancelled = true;
        return (int) meeting(number).dates.stream().filter(other -> !other.cancelled).count();
    }

    public int move(int number, int index, int day, int time) {
        PlainDate d = date(number, index);
        PlainMeeting m = meeting(number);
        legalDay(0, day);
        legal(within(time, 0, 15) && within(time + m.length - 1, 0, 15));
        refuseBusy(m.expected(), day, times(time, m.length), d);
        int room = room(m.expected(), day, times(time, m.length), d);
        if (room < 0) {
            throw refused(2, index);
        }
        d.day = day;
        d.time = time;
        d.room = room;
        d.cancelled = false;
        return room;
    }

    public int meetingCount() {
        return meetings.size();
    }

    public int meetingAt(int rank) {
        if (!within(rank, 0, meetings.size() - 1)) {
            throw new NoSuchElementException();
        }
        return new ArrayList<>(meetings.keySet()).get(rank);
    }

    public int hostOf(int number) {
        return meeting(number).host;
    }

    public char answerOf(int number, int person) {
        PlainMeeting m = meeting(number);
        legal(within(person, 0, 5));
        return person == m.host ? 'h' : m.answers.getOrDefault(person, '-');
    }

    public int expected(int number) {
        return meeting(number).expected().size();
    }

    public int dateCount(int number) {
        return meeting(number).dates.size();
    }

    public int dayOf(int number, int index) {
        return date(number, index).day;
    }

    public int timeOf(int number, int index) {
        return date(number, index).time;
    }

    public boolean isCancelled(int number, int index) {
        return date(number, index).cancelled;
    }

    public int roomOf(int number, int index) {
        PlainDate d = date(number, index);
        if (d.cancelled) {
            throw new IllegalStateException();
        }
        return d.room;
    }

    public int refusalReason() {
        if (reason == 0) {
            throw new NoSuchElementException();
        }
        return reason;
    }

    public int refusalDetail() {
        refusalReason();
        return detail;
    }

    public boolean isFree(int person, int day, int time) {
        legalDay(person, day);
        legal(within(time, 0, 15));
        return keeping(person, day, times(time, 1), null) == null;
    }

    public int meetingOf(int person, int day, int time) {
        if (isFree(person, day, time)) {
            throw new NoSuchElementException();
        }
        return keeping(person, day, times(time, 1), null);
    }

    public int freeTimes(int person, int day) {
        legalDay(person, day);
        return (int) times(0, 16).stream().filter(time -> isFree(person, day, time)).count();
    }

    public int freeByTrying(int person, int day) {
        return freeTimes(person, day);
    }

    public int longestFree(int person, int day) {
        legalDay(person, day);
        for (int length = 16; length > 0; length--) {
            for (int time = 0; time + length <= 16; time++) {
                if (keeping(person, day, times(time, length), null) == null) {
                    return length;
                }
            }
        }
        return 0;
    }

    public int firstCommon(int sum, int length, int day) {
        legal(within(sum, 1, 63) && within(length, 1, 6) && within(day, 0, 27));
        for (int at = 16 * day; at < 16 * 28; at++) {
            if (at % 16 + length <= 16
                    && room(people(sum), at / 16, times(at % 16, length), null) >= 0) {
                return at;
            }
        }
        throw new NoSuchElementException();
    }

    public int commonCount(int sum, int length, int day) {
        legal(within(sum, 1, 63) && within(length, 1, 6) && within(day, 0, 27));
        return (int) times(0, 17 - length).stream()
                .filter(time -> room(people(sum), day, times(time, length), null) >= 0).count();
    }

    public int roomFor(int sum, int length, int day, int time) {
        legal(within(sum, 1, 63) && within(length, 1, 6) && within(day, 0, 27)
                && within(time, 0, 15) && within(time + length - 1, 0, 15));
        int room = room(people(sum), day, times(time, length), null);
        if (room < 0) {
            throw new NoSuchElementException();
        }
        return room;
    }

    public int usedTimes(int room, int day) {
        legal(within(room, 0, 3) && within(day, 0, 27));
        TreeSet<Integer> used = new TreeSet<>();
        for (PlainMeeting m : meetings.values()) {
            for (PlainDate d : m.dates) {
                if (!d.cancelled && d.room == room && d.day == day) {
                    used.addAll(times(d.time, m.length));
                }
            }
        }
        return used.size();
    }

    public int walks(int person, int day) {
        legalDay(person, day);
        TreeMap<Integer, Integer> houseAt = new TreeMap<>();
        for (PlainMeeting m : meetings.values()) {
            for (PlainDate d : m.dates) {
                if (!d.cancelled && d.day == day && m.expected().contains(person)) {
                    houseAt.put(d.time, houses[d.room]);
                }
            }
        }
        List<Integer> inOrder = new ArrayList<>(houseAt.values());
        int walks = 0;
        for (int i = 1; i < inOrder.size(); i++) {
            walks += Math.abs(inOrder.get(i) - inOrder.get(i - 1));
        }
        return walks;
    }

    public long sittings() {
        long sum = 0;
        for (PlainMeeting m : meetings.values()) {
            for (PlainDate d : m.dates) {
                sum += d.cancelled ? 0 : m.length * m.expected().size();
            }
        }
        return sum;
    }

    public double meanExpected() {
        if (meetings.isEmpty()) {
            throw new ArithmeticException();
        }
        return meetings.values().stream().mapToDouble(m -> m.expected().size()).sum()
                / meetings.size();
    }

    public float yesShare() {
        int[] counts = new int[2];
        for (PlainMeeting m : meetings.values()) {
            for (char answer : m.answers.values()) {
                counts[0] += answer == 'y' ? 1 : 0;
                counts[1] += answer == 'o' ? 0 : 1;
            }
        }
        if (counts[1] == 0) {
            throw new ArithmeticException();
        }
        return counts[0] / (float) counts[1];
    }

    /** Planning keeps all that this asks for, whatever the calls are. */
    public boolean isConsistent() {
        return true;
    }
}
