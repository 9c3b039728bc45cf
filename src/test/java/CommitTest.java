/** Promise 5: commit. */
public final class CommitTest {
    public static void main(String[] args) {
        Check.test("STRANGER: it is no member", CommitTest::stranger);
        Check.test("OLD: the generation told is not the group's", CommitTest::old);
        Check.test("MIXED: the group is not stable", CommitTest::mixed);
        Check.test("FOREIGN: the log is not its share", CommitTest::foreign);
        Check.test("FULL: there is no room for a note", CommitTest::full);
        Check.test("in this order", CommitTest::theOrder);
        Check.test("a note is needed (there is room for one less)", CommitTest::takesRoom);
        Check.test("the answer is 0, what the group COMMITTED for the log is the offset", CommitTest::commits);
        Check.test("and the member is heard", CommitTest::itIsHeard);
        Check.test("only the member is heard", CommitTest::noOtherIsHeard);
        Check.test("a refused commit is not heard", CommitTest::refusedIsNotHeard);
        Check.test("Illegal argument, which changes nothing", CommitTest::illegalArgument);
        Check.test("also if the offset is below 0", CommitTest::offsetBelowZero);
        Check.test("illegal argument stands before every refusal", CommitTest::illegalFirst);
        Check.done();
    }

    private static void stranger() {
        for (Desks.Past past : Desks.all()) {
            Twins.unchanged("commit of 0", past, desk -> desk.commit(0, 0, 2, 0, 5L), -8);
            Twins.unchanged("commit in an empty group", past, desk -> desk.commit(1, 1, 0, 0, 5L), -8);
        }
        GroupDesk desk = Desks.after(Desks::mixing);
        desk.ticks(15);
        Check.due("commit of one who came too late", desk.commit(0, 1, 3, 0, 5L), -8);
        desk.restart();
        Check.due("commit after a restart", desk.commit(0, 4, 3, 0, 5L), -8);
    }

    private static void old() {
        int[] others = {Integer.MIN_VALUE, -2, -1, 0, 1, 3, Integer.MAX_VALUE};
        for (int generation : others) {
            Twins.unchanged("commit of " + generation, Desks::stable,
                    desk -> desk.commit(0, 1, generation, 0, 5L), -9);
        }
        GroupDesk desk = Desks.after(Desks::mixing);
        desk.ticks(15);
        Check.due("commit of the generation before", desk.commit(0, 4, 2, 0, 5L), -9);
        Check.due("commit of the new one", desk.commit(0, 4, 3, 0, 5L), 0);
    }

    private static void mixed() {
        Desks.Past[] pasts = {Desks::mixing, Desks::stuck, Desks::waiting};
        for (Desks.Past past : pasts) {
            Twins.unchanged("commit of one who has not joined", past, desk -> desk.commit(0, 1, 2, 0, 5L), -10);
            Twins.unchanged("commit of one who has joined", past, desk -> desk.commit(0, 4, 2, 2, 5L), -10);
        }
        GroupDesk desk = new GroupDesk(3);
        desk.room(0);
        desk.join(0, 0);
        Check.due("all have joined, but there was no room", desk.commit(0, 0, 0, 0, 5L), -10);
    }

    private static void foreign() {
        Twins.unchanged("log 1 of the second", Desks::stable, desk -> desk.commit(0, 1, 2, 1, 5L), -11);
        Twins.unchanged("log 0 of the first", Desks::stable, desk -> desk.commit(0, 3, 2, 0, 5L), -11);
        Twins.unchanged("log 2 of the first", Desks::stable, desk -> desk.commit(0, 3, 2, 2, 5L), -11);
        GroupDesk desk = new GroupDesk(1);
        desk.join(0, 0);
        desk.join(0, 1);
        desk.join(0, 0);
        Check.due("of one without any share", desk.commit(0, 1, 2, 0, 5L), -11);
    }

    private static void full() {
        Twins.unchanged("commit of 1", Desks::full, desk -> desk.commit(0, 1, 2, 0, 5L), -2);
        Twins.unchanged("commit of 3", Desks::full, desk -> desk.commit(0, 3, 2, 1, 5L), -2);
        GroupDesk desk = Desks.after(Desks::full);
        desk.room(1);
        Check.due("the last that there is room for", desk.commit(0, 1, 2, 0, 5L), 0);
        Check.due("one too many", desk.commit(0, 1, 2, 0, 6L), -2);
        Check.due("committed", desk.committed(0, 0), 5L);
    }

    /** Each refusal where every later one would be due too. */
    private static void theOrder() {
        GroupDesk mixing = Desks.after(Desks::stuck);
        Check.due("STRANGER before OLD and MIXED", mixing.commit(0, 0, 1, 0, 5L), -8);
        Check.due("STRANGER before MIXED", mixing.commit(0, 0, 2, 0, 5L), -8);
        Check.due("OLD before MIXED", mixing.commit(0, 1, 1, 1, 5L), -9);
        Check.due("MIXED before FOREIGN and FULL", mixing.commit(0, 1, 2, 1, 5L), -10);
        GroupDesk full = Desks.after(Desks::full);
        Check.due("STRANGER before OLD and FULL", full.commit(0, 0, 1, 0, 5L), -8);
        Check.due("STRANGER before FOREIGN and FULL", full.commit(0, 0, 2, 0, 5L), -8);
        Check.due("OLD before FOREIGN and FULL", full.commit(0, 1, 1, 1, 5L), -9);
        Check.due("OLD before FULL", full.commit(0, 1, 1, 0, 5L), -9);
        Check.due("FOREIGN before FULL", full.commit(0, 1, 2, 1, 5L), -11);
        Check.due("FULL at last", full.commit(0, 1, 2, 0, 5L), -2);
    }

    private static void takesRoom() {
        GroupDesk desk = Desks.after(Desks::stable);
        desk.room(2);
        desk.commit(0, 1, 2, 0, 5L);
        Check.due("room", desk.room(1), 1);
        Check.due("notes", desk.notes(), 4);
        desk.commit(0, 1, 2, 0, 5L);
        Check.due("room, the same offset again", desk.room(1), 0);
        Check.due("notes, the same offset again", desk.notes(), 5);
    }

    private static void commits() {
        GroupDesk desk = Desks.after(Desks::stable);
        long[] offsets = {0L, 1L, Integer.MAX_VALUE, 1L << 31, 1L << 32, Long.MAX_VALUE, 7L, 0L};
        for (long offset : offsets) {
            Check.due("commit of " + offset, desk.commit(0, 1, 2, 2, offset), 0);
            Check.due("committed", desk.committed(0, 2), offset);
        }
        Check.due("another log of it", desk.committed(0, 0), -1);
        Check.due("another member's log", desk.committed(0, 1), 77);
        Check.due("another group's log", desk.committed(1, 2), -1);
    }

    private static void itIsHeard() {
        GroupDesk desk = Desks.after(Desks::stable);
        desk.ticks(19);
        Check.due("commit, heard 29 ticks ago", desk.commit(0, 1, 2, 0, 5L), 0);
        desk.ticks(1);
        Check.due("members", desk.group(0, 2), 10);
        desk.beat(0, 3, 2);
        desk.ticks(28);
        Check.due("members 29 ticks after the commit", desk.group(0, 2), 10);
        desk.ticks(1);
        Check.due("members 30 ticks after the commit", desk.group(0, 2), 8);
    }

    private static void noOtherIsHeard() {
        GroupDesk desk = Desks.after(Desks::stable);
        desk.ticks(19);
        desk.commit(0, 3, 2, 1, 5L);
        desk.ticks(1);
        Check.due("members", desk.group(0, 2), 8);
    }

    private static void refusedIsNotHeard() {
        GroupDesk desk = Desks.after(Desks::stable);
        desk.ticks(19);
        Check.due("OLD", desk.commit(0, 1, 1, 0, 5L), -9);
        Check.due("FOREIGN", desk.commit(0, 1, 2, 1, 5L), -11);
        desk.room(0);
        Check.due("FULL", desk.commit(0, 1, 2, 0, 5L), -2);
        desk.ticks(1);
        Check.due("members", desk.group(0, 2), 8);
    }

    private static void illegalArgument() {
        Twins.illegalGroupOrMember("commit(group, 1, 2, 0, 5)", (desk, number) -> desk.commit(number, 1, 2, 0, 5L));
        Twins.illegalGroupOrMember("commit(0, member, 2, 0, 5)", (desk, number) -> desk.commit(0, number, 2, 0, 5L));
        Twins.illegalLog("commit(0, 1, 2, log, 5)", (desk, number) -> desk.commit(0, 1, 2, number, 5L));
        for (int logs = 1; logs <= 8; logs++) {
            GroupDesk desk = new GroupDesk(logs);
            int beyond = logs;
            desk.join(0, 0);
            Check.due("the last of " + logs, desk.commit(0, 0, 1, logs - 1, 5L), 0);
            Check.illegal("one beyond " + logs, () -> desk.commit(0, 0, 1, beyond, 5L));
        }
    }

    private static void offsetBelowZero() {
        long[] offsets = {-1L, Integer.MIN_VALUE, -(1L << 32), Long.MIN_VALUE};
        for (long offset : offsets) {
            Twins.illegal("commit of " + offset, desk -> desk.commit(0, 1, 2, 0, offset));
        }
    }

    private static void illegalFirst() {
        Twins.illegal("a stranger's offset", desk -> desk.commit(0, 0, 2, 0, -1L));
        Twins.illegal("a stranger's log", desk -> desk.commit(0, 0, 2, 3, 5L));
        Twins.illegal("an old generation's offset", desk -> desk.commit(0, 1, 1, 0, -1L));
        Twins.illegal("an old generation's log", desk -> desk.commit(0, 1, 1, -1, 5L));
        Twins.illegal("a foreign log's offset", desk -> desk.commit(0, 1, 2, 1, -1L));
        Twins.illegal("all of it", desk -> desk.commit(-1, 8, -1, 8, -1L));
    }
}
