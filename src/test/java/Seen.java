import java.util.NoSuchElementException;

/**
 * What a planner's calls tell of it, as one text, so that a test can ask whether a call has changed
 * anything. The number that the next meeting will get is not in it: only asking for one tells it.
 */
final class Seen {
    private Seen() {
    }

    static String of(CalendaryPlanner planner) {
        StringBuilder text = new StringBuilder();
        int gap = planner.setGap(0);
        planner.setGap(gap);
        text.append("gap ").append(gap);
        for (int room = 0; room < 4; room++) {
            text.append("; room ").append(planner.seatsOf(room));
            text.append(' ').append(planner.houseOf(room));
        }
        for (int rank = 0; rank < planner.meetingCount(); rank++) {
            addMeeting(text, planner, planner.meetingAt(rank));
        }
        for (int day = 0; day < 28; day++) {
            addDay(text, planner, day);
        }
        return text.append("; sittings ").append(planner.sittings()).toString();
    }

    static String refusalOf(CalendaryPlanner planner) {
        try {
            return planner.refusalReason() + " " + planner.refusalDetail();
        } catch (NoSuchElementException e) {
            return "nothing refused";
        }
    }

    private static void addMeeting(StringBuilder text, CalendaryPlanner planner, int meeting) {
        text.append("; meeting ").append(meeting).append(" of ").append(planner.hostOf(meeting));
        text.append(' ');
        for (int person = 0; person < 6; person++) {
            text.append(planner.answerOf(meeting, person));
        }
        for (int date = 0; date < planner.dateCount(meeting); date++) {
            text.append(", ").append(planner.dayOf(meeting, date));
            text.append(' ').append(planner.timeOf(meeting, date)).append(' ');
            if (planner.isCancelled(meeting, date)) {
                text.append("cancelled");
            } else {
                text.append(planner.roomOf(meeting, date));
            }
        }
    }

    /** Days on which nobody has anything are left out. */
    private static void addDay(StringBuilder text, CalendaryPlanner planner, int day) {
        for (int room = 0; room < 4; room++) {
            int used = planner.usedTimes(room, day);
            if (used != 0) {
                text.append("; day ").append(day).append(" room ").append(room);
                text.append(": ").append(used);
            }
        }
        for (int person = 0; person < 6; person++) {
            for (int time = 0; time < 16; time++) {
                if (!planner.isFree(person, day, time)) {
                    text.append("; ").append(person).append(" at ").append(day).append('.');
                    text.append(time).append(": ").append(planner.meetingOf(person, day, time));
                }
            }
        }
    }
}
