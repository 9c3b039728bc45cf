import java.util.Arrays;

/** Groups whose members share logs, generation by generation; ../shared/DOC.md says what is promised. */
public final class GroupDesk {
    public static final int NONE = -1;
    public static final int FULL = -2;
    public static final int STRANGER = -8;
    public static final int OLD = -9;
    public static final int MIXED = -10;
    public static final int FOREIGN = -11;

    private static final int GROUPS = 8;
    private static final int MEMBERS = 8;
    private static final int MAX_LOGS = 8;
    private static final int FIRST_ROOM = 1000;
    private static final int MAX_ROOM = 100000;
    private static final int MAX_TICKS = 200;
    private static final int MAX_TIME = 1000000;
    private static final int MIXING_TICKS = 20;
    private static final int SILENT_TICKS = 30;

    // The numbers are those that group(.., 1) answers.
    private static final int EMPTY = 0;
    private static final int MIXING = 1;
    private static final int STABLE = 2;

    private final int logs;
    private final Group[] groups;
    private final Notebook notebook;
    private int time;

    public GroupDesk(int logs) {
        this.logs = Math.min(Math.max(logs, 1), MAX_LOGS);
        this.notebook = new Notebook();
        this.groups = new Group[GROUPS];
        for (int i = 0; i < GROUPS; i++) {
            this.groups[i] = new Group();
        }
    }

    public int join(int group, int member) throws IllegalArgumentException {
        Group its = groupAt(group);
        checkMember(member);
        its.takeIn(member, time);
        its.finishMixing(time, notebook);
        return its.state == STABLE ? its.generation : NONE;
    }

    public int leave(int group, int member) throws IllegalArgumentException {
        Group its = groupAt(group);
        checkMember(member);
        if (!its.has(member)) {
            return STRANGER;
        }
        its.putOut(1 << member, time);
        its.finishMixing(time, notebook);
        return 1;
    }

    public int beat(int group, int member, int generation) throws IllegalArgumentException {
        Group its = groupAt(group);
        checkMember(member);
        if (!its.has(member)) {
            return STRANGER;
        }
        if (generation != its.generation) {
            return OLD;
        }
        its.heard[member] = time;
        return its.hasJoined(member) ? 0 : 1;
    }

    public int commit(int group, int member, int generation, int log, long offset) throws IllegalArgumentException {
        Group its = groupAt(group);
        checkMember(member);
        checkLog(log);
        if (offset < 0) {
            throw new IllegalArgumentException("the offset is below 0");
        }
        int refusal = its.refusalOf(member, generation, log);
        if (refusal != 0) {
            return refusal;
        }
        if (!notebook.write()) {
            return FULL;
        }
        its.offsets[log] = offset;
        its.heard[member] = time;
        return 0;
    }

    public long committed(int group, int log) throws IllegalArgumentException {
        Group its = groupAt(group);
        checkLog(log);
        return its.offsets[log];
    }

    public int group(int group, int what) throws IllegalArgumentException {
        Group its = groupAt(group);
        switch (what) {
            case 0:
                return its.generation;
            case 1:
                return its.state;
            case 2:
                return its.members;
            case 3:
                return its.joined;
            case 4:
                return its.ticksToLimit(time);
            default:
                throw new IllegalArgumentException("what is not 0 .. 4");
        }
    }

    public int share(int group, int member) throws IllegalArgumentException {
        Group its = groupAt(group);
        checkMember(member);
        int shared = 0;
        for (int log = 0; log < logs; log++) {
            if (its.gives(log, member)) {
                shared |= 1 << log;
            }
        }
        return shared;
    }

    public int room(int n) throws IllegalArgumentException {
        if (n < 0 || n > MAX_ROOM) {
            throw new IllegalArgumentException("n is not 0 .. 100000");
        }
        int before = notebook.left;
        notebook.left = n;
        return before;
    }

    public int restart() {
        int before = 0;
        for (int i = 0; i < GROUPS; i++) {
            before += Integer.bitCount(groups[i].members);
            groups[i].clear();
        }
        return before;
    }

    public int ticks(int n) throws IllegalArgumentException {
        if (n < 1 || n > MAX_TICKS) {
            throw new IllegalArgumentException("n is not 1 .. 200");
        }
        if (time + n > MAX_TIME) {
            throw new IllegalArgumentException("TIME would be above 1000000");
        }
        for (int i = 0; i < n; i++) {
            tick();
        }
        return time;
    }

    public int notes() {
        return notebook.written;
    }

    private void tick() {
        time++;
        for (int i = 0; i < GROUPS; i++) {
            groups[i].dropSilent(time);
            groups[i].finishMixing(time, notebook);
        }
    }

    private Group groupAt(int group) {
        if (group < 0 || group >= GROUPS) {
            throw new IllegalArgumentException("there is no such group");
        }
        return groups[group];
    }

    private void checkMember(int member) {
        if (member < 0 || member >= MEMBERS) {
            throw new IllegalArgumentException("there is no such member");
        }
    }

    private void checkLog(int log) {
        if (log < 0 || log >= logs) {
            throw new IllegalArgumentException("there is no such log");
        }
    }

    /** The notes of all groups draw on one room. */
    private static final class Notebook {
        int left = FIRST_ROOM;
        int written;

        boolean write() {
            if (left < 1) {
                return false;
            }
            left--;
            written++;
            return true;
        }
    }

    /**
     * One group. Sets of members are masks, 2 to the power of each member. Joined is a part of members in
     * a mixing group, all of them in a stable one and none in an empty one, so that it can be told as it is.
     * Callers have tested every member and log that they hand in.
     */
    private static final class Group {
        int generation;
        int state = EMPTY;
        int members;
        int joined;
        int limit;
        final int[] heard = new int[MEMBERS];
        final long[] offsets = new long[MAX_LOGS];

        Group() {
            Arrays.fill(offsets, NONE);
        }

        boolean has(int member) {
            return (members & (1 << member)) != 0;
        }

        boolean hasJoined(int member) {
            return (joined & (1 << member)) != 0;
        }

        void clear() {
            state = EMPTY;
            members = 0;
            joined = 0;
        }

        void mix(int time) {
            state = MIXING;
            joined = 0;
            limit = time + MIXING_TICKS;
        }

        void takeIn(int member, int time) {
            if (state != MIXING) {
                mix(time);
            }
            members |= 1 << member;
            joined |= 1 << member;
            heard[member] = time;
        }

        void putOut(int gone, int time) {
            members &= ~gone;
            joined &= ~gone;
            if (members == 0) {
                clear();
            } else if (state == STABLE) {
                mix(time);
            }
        }

        void dropSilent(int time) {
            if (state != STABLE) {
                return;
            }
            int silent = 0;
            for (int member = 0; member < MEMBERS; member++) {
                if (has(member) && time - heard[member] >= SILENT_TICKS) {
                    silent |= 1 << member;
                }
            }
            if (silent != 0) {
                putOut(silent, time);
            }
        }

        void finishMixing(int time, Notebook notebook) {
            if (state != MIXING || (joined != members && time < limit)) {
                return;
            }
            if (joined == 0) {
                clear();
                return;
            }
            // Without room nothing may change: the late members stay, and may still join.
            if (notebook.write()) {
                settle(time);
            }
        }

        void settle(int time) {
            generation++;
            state = STABLE;
            members = joined;
            Arrays.fill(heard, time);
        }

        int ticksToLimit(int time) {
            return state == MIXING ? Math.max(limit - time, 0) : 0;
        }

        boolean gives(int log, int member) {
            int count = Integer.bitCount(members);
            if (state != STABLE || !has(member) || count == 0) {
                return false;
            }
            int place = Integer.bitCount(members & ((1 << member) - 1));
            return log % count == place;
        }

        /** Why a commit does not count, 0 if it does as far as the group can tell: room is asked for last. */
        int refusalOf(int member, int told, int log) {
            if (!has(member)) {
                return STRANGER;
            }
            if (told != generation) {
                return OLD;
            }
            if (state != STABLE) {
                return MIXED;
            }
            return gives(log, member) ? 0 : FOREIGN;
        }
    }
}
