import java.util.ArrayList;
import java.util.List;
import java.util.function.Function;

/** Two desks with the same past, one of which gets a call more: what the call changed shows as a difference. */
final class Twins {
    /** Far enough for every limit (20) and every silence (30) that a past has begun. */
    private static final int TICKS = 55;

    private static final int[] NO_GROUP = {Integer.MIN_VALUE, -32, -1, 8, 9, 32, Integer.MAX_VALUE};
    private static final int[] NO_LOG = {Integer.MIN_VALUE, -32, -1, Desks.LOGS, 8, 32, Integer.MAX_VALUE};

    /** A call with one of its numbers left open. */
    interface Call {
        Number with(GroupDesk desk, int number);
    }

    private Twins() {
    }

    /** In every state the call throws, and changes nothing. */
    static void illegal(String call, Function<GroupDesk, Number> run) {
        for (Desks.Past past : Desks.all()) {
            GroupDesk desk = Desks.after(past);
            Check.illegal(call, () -> run.apply(desk));
            same(call, desk, Desks.after(past));
        }
    }

    static void illegal(String call, int[] wrong, Call run) {
        for (int number : wrong) {
            illegal(call + " with " + number, desk -> run.with(desk, number));
        }
    }

    /** The number is a group or a member: both are 0 .. 7. */
    static void illegalGroupOrMember(String call, Call run) {
        illegal(call, NO_GROUP, run);
    }

    static void illegalLog(String call, Call run) {
        illegal(call, NO_LOG, run);
    }

    /** The call answers so, and changes nothing. */
    static void unchanged(String call, Desks.Past past, Function<GroupDesk, Number> run, long want) {
        GroupDesk desk = Desks.after(past);
        Check.due(call, run.apply(desk).longValue(), want);
        same(call, desk, Desks.after(past));
    }

    private static void same(String call, GroupDesk called, GroupDesk other) {
        List<String> got = future(called);
        List<String> want = future(other);
        for (int i = 0; i < want.size(); i++) {
            if (!got.get(i).equals(want.get(i))) {
                Check.fail("after " + call + " " + got.get(i) + ", without it " + want.get(i));
                return;
            }
        }
    }

    /** All that can be seen of a desk from now on, in less than 400 calls. */
    private static List<String> future(GroupDesk desk) {
        List<String> seen = new ArrayList<>();
        for (int group = 0; group < 8; group++) {
            for (int what = 0; what <= 4; what++) {
                seen.add("group(" + group + ", " + what + ") = " + desk.group(group, what));
            }
            for (int log = 0; log < Desks.LOGS; log++) {
                seen.add("committed(" + group + ", " + log + ") = " + desk.committed(group, log));
            }
            for (int member = 0; member < 8; member++) {
                seen.add("share(" + group + ", " + member + ") = " + desk.share(group, member));
            }
        }
        seen.add("notes() = " + desk.notes());
        int room = desk.room(0);
        seen.add("room = " + room);
        desk.room(room);
        for (int i = 0; i < TICKS; i++) {
            int time = desk.ticks(1);
            seen.add("at " + time + " members " + desk.group(0, 2) + ", joined " + desk.group(0, 3)
                    + ", state " + desk.group(0, 1));
        }
        return seen;
    }
}
