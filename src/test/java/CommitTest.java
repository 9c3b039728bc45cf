/** Promises 5 and 6: commit and committed. */
public final class CommitTest {
    public static void main(String[] args) {
        offsets();
        theOrderOfRefusals();
        aRefusedCommitIsNotHeard();
        aCommitIsHeard();
        wrongArguments();
        Check.done();
    }

    private static void offsets() {
        GroupDesk desk = new GroupDesk(8);
        desk.join(0, 0);
        desk.join(1, 0);
        Check.due("commit of 0", desk.commit(0, 0, 1, 7, 0L), 0);
        Check.due("committed 0", desk.committed(0, 7), 0L);
        Check.due("commit of the greatest", desk.commit(0, 0, 1, 7, Long.MAX_VALUE), 0);
        Check.due("committed of the greatest", desk.committed(0, 7), Long.MAX_VALUE);
        Check.due("commit of a lesser one", desk.commit(0, 0, 1, 7, 5000000000L), 0);
        Check.due("committed of the lesser one", desk.committed(0, 7), 5000000000L);
        Check.due("another log", desk.committed(0, 6), -1L);
        Check.due("another group", desk.committed(1, 7), -1L);
        Check.due("notes", desk.notes(), 5);
        Check.due("room", desk.room(0), 995);
    }

    private static void theOrderOfRefusals() {
        GroupDesk desk = new GroupDesk(4);
        desk.join(0, 0);
        desk.join(0, 1);
        desk.room(0);
        Check.due("STRANGER before OLD", desk.commit(0, 2, 0, 0, 1L), -8);
        Check.due("STRANGER before MIXED", desk.commit(0, 2, 1, 0, 1L), -8);
        Check.due("OLD before MIXED", desk.commit(0, 0, 0, 0, 1L), -9);
        Check.due("MIXED of one who has not joined", desk.commit(0, 0, 1, 0, 1L), -10);
        Check.due("MIXED of one who has joined", desk.commit(0, 1, 1, 1, 1L), -10);
        desk.room(1);
        Check.due("the room goes to the generation", desk.join(0, 0), 2);
        Check.due("OLD before FOREIGN", desk.commit(0, 0, 1, 1, 1L), -9);
        Check.due("OLD before FULL", desk.commit(0, 0, 3, 0, 1L), -9);
        Check.due("FOREIGN before FULL", desk.commit(0, 0, 2, 1, 1L), -11);
        Check.due("FULL", desk.commit(0, 0, 2, 0, 1L), -2);
        Check.due("nothing is committed", desk.committed(0, 0), -1L);
        Check.due("no note was made", desk.notes(), 2);
        desk.room(1);
        Check.due("the last that there is room for", desk.commit(0, 0, 2, 2, 1L), 0);
        Check.due("then it is full", desk.commit(0, 1, 2, 3, 1L), -2);
        Check.due("committed", desk.committed(0, 2), 1L);
        int[] old = {Integer.MIN_VALUE, -1, Integer.MAX_VALUE};
        for (int generation : old) {
            Check.due("commit of generation " + generation, desk.commit(0, 0, generation, 0, 1L), -9);
        }
    }

    private static void aRefusedCommitIsNotHeard() {
        GroupDesk desk = new GroupDesk(1);
        desk.join(0, 0);
        desk.ticks(10);
        Check.due("OLD", desk.commit(0, 0, 0, 0, 1L), -9);
        desk.room(0);
        Check.due("FULL", desk.commit(0, 0, 1, 0, 1L), -2);
        desk.ticks(20);
        Check.due("members", desk.group(0, 2), 0);
    }

    private static void aCommitIsHeard() {
        GroupDesk desk = new GroupDesk(1);
        desk.join(0, 0);
        desk.ticks(10);
        Check.due("commit", desk.commit(0, 0, 1, 0, 1L), 0);
        desk.ticks(29);
        Check.due("members", desk.group(0, 2), 1);
        desk.ticks(1);
        Check.due("members, 30 ticks after the commit", desk.group(0, 2), 0);
        Check.due("what was committed stays", desk.committed(0, 0), 1L);
        Check.due("commit of none", desk.commit(0, 0, 1, 0, 2L), -8);
    }

    private static void wrongArguments() {
        GroupDesk desk = new GroupDesk(3);
        desk.join(0, 0);
        int[] wrong = {Integer.MIN_VALUE, -1, 8, Integer.MAX_VALUE};
        for (int number : wrong) {
            Check.illegal("commit(" + number + ", 0, 1, 0, 1)", () -> desk.commit(number, 0, 1, 0, 1L));
            Check.illegal("commit(0, " + number + ", 1, 0, 1)", () -> desk.commit(0, number, 1, 0, 1L));
            Check.illegal("commit(0, 0, 1, " + number + ", 1)", () -> desk.commit(0, 0, 1, number, 1L));
            Check.illegal("committed(" + number + ", 0)", () -> desk.committed(number, 0));
            Check.illegal("committed(0, " + number + ")", () -> desk.committed(0, number));
        }
        Check.illegal("commit of log 3 of 3", () -> desk.commit(0, 0, 1, 3, 1L));
        Check.illegal("committed of log 3 of 3", () -> desk.committed(0, 3));
        Check.illegal("commit of -1", () -> desk.commit(0, 0, 1, 0, -1L));
        Check.illegal("commit of the least", () -> desk.commit(0, 0, 1, 0, Long.MIN_VALUE));
        Check.illegal("a stranger's commit of -1", () -> desk.commit(0, 5, 1, 0, -1L));
        Check.illegal("a stranger's commit of log 3", () -> desk.commit(0, 5, 1, 3, 1L));
        Check.due("nothing is committed", desk.committed(0, 0), -1L);
        Check.due("notes", desk.notes(), 1);
    }
}
