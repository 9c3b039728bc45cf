/** Promise 6: committed. */
public final class CommittedTest {
    public static void main(String[] args) {
        Check.test("What a group committed for a log", CommittedTest::whatItCommitted);
        Check.test("NONE for nothing", CommittedTest::noneForNothing);
        Check.test("a refused commit is nothing", CommittedTest::refusedIsNothing);
        Check.test("it is of the group, not of a member or generation", CommittedTest::ofTheGroup);
        Check.test("asking changes nothing", CommittedTest::askingChangesNothing);
        Check.test("Illegal argument, which changes nothing", CommittedTest::illegalArgument);
        Check.done();
    }

    private static void whatItCommitted() {
        GroupDesk desk = new GroupDesk(8);
        for (int group = 0; group < 8; group++) {
            desk.join(group, group);
            for (int log = 0; log < 8; log++) {
                desk.commit(group, group, 1, log, 100L * group + log);
            }
        }
        for (int group = 0; group < 8; group++) {
            for (int log = 0; log < 8; log++) {
                Check.due("committed(" + group + ", " + log + ")", desk.committed(group, log), 100L * group + log);
            }
        }
    }

    private static void noneForNothing() {
        GroupDesk desk = new GroupDesk(2);
        Check.due("of an empty group", desk.committed(0, 0), -1);
        desk.join(0, 0);
        Check.due("of a stable group", desk.committed(0, 0), -1);
        desk.commit(0, 0, 1, 0, 0L);
        Check.due("0 is not nothing", desk.committed(0, 0), 0);
        Check.due("of the other log", desk.committed(0, 1), -1);
        Check.due("of the other group", desk.committed(1, 0), -1);
    }

    private static void refusedIsNothing() {
        GroupDesk desk = Desks.after(Desks::stable);
        desk.commit(0, 0, 2, 1, 5L);
        Check.due("after STRANGER", desk.committed(0, 1), 77);
        desk.commit(0, 3, 1, 1, 5L);
        Check.due("after OLD", desk.committed(0, 1), 77);
        desk.commit(0, 1, 2, 1, 5L);
        Check.due("after FOREIGN", desk.committed(0, 1), 77);
        desk.room(0);
        desk.commit(0, 3, 2, 1, 5L);
        Check.due("after FULL", desk.committed(0, 1), 77);
        desk.join(0, 3);
        desk.commit(0, 3, 2, 1, 5L);
        Check.due("after MIXED", desk.committed(0, 1), 77);
        Check.illegal("commit of -1", () -> desk.commit(0, 3, 2, 1, -1L));
        Check.due("after illegal argument", desk.committed(0, 1), 77);
    }

    private static void ofTheGroup() {
        GroupDesk desk = Desks.after(Desks::mixing);
        Check.due("while it mixes", desk.committed(0, 1), 77);
        desk.ticks(15);
        Check.due("in the next generation", desk.committed(0, 1), 77);
        desk.leave(0, 4);
        Check.due("when it is empty", desk.committed(0, 1), 77);
        desk.join(0, 6);
        Check.due("with another member", desk.committed(0, 1), 77);
        Check.due("commit of the other", desk.commit(0, 6, 4, 1, 3L), 0);
        Check.due("what the other committed", desk.committed(0, 1), 3);
    }

    private static void askingChangesNothing() {
        Twins.unchanged("committed", Desks::waiting, desk -> desk.committed(0, 1), 77);
    }

    private static void illegalArgument() {
        Twins.illegalGroupOrMember("committed(group, 1)", (desk, number) -> desk.committed(number, 1));
        Twins.illegalLog("committed(0, log)", (desk, number) -> desk.committed(0, number));
        Twins.illegal("committed(8, -1)", desk -> desk.committed(8, -1));
        for (int logs = 1; logs <= 8; logs++) {
            GroupDesk desk = new GroupDesk(logs);
            int beyond = logs;
            Check.due("the last of " + logs, desk.committed(7, logs - 1), -1);
            Check.illegal("one beyond " + logs, () -> desk.committed(7, beyond));
        }
    }
}
