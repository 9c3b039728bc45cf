/** Promise 1: a new object; what the terms say of "at first"; and the constants. */
public final class NewObjectTest {
    public static void main(String[] args) {
        Check.test("So many logs", NewObjectTest::soManyLogs);
        Check.test("below 1 counts as 1", NewObjectTest::belowOne);
        Check.test("above 8 as 8", NewObjectTest::aboveEight);
        Check.test("all groups are empty", NewObjectTest::allGroupsAreEmpty);
        Check.test("nothing is committed", NewObjectTest::nothingIsCommitted);
        Check.test("TIME is 0 at first", NewObjectTest::timeAtFirst);
        Check.test("a GENERATION, 0 at first", NewObjectTest::generationAtFirst);
        Check.test("ROOM for 1000 at first", NewObjectTest::roomAtFirst);
        Check.test("the constants", NewObjectTest::constants);
        Check.test("a new object knows nothing of another", NewObjectTest::objectsAreApart);
        Check.done();
    }

    private static void countOfLogs(int asked, int count) {
        GroupDesk desk = new GroupDesk(asked);
        Check.due("committed of the last of " + asked, desk.committed(0, count - 1), -1);
        Check.illegal("committed beyond the last of " + asked, () -> desk.committed(0, count));
        desk.join(0, 0);
        Check.due("commit of the last of " + asked, desk.commit(0, 0, 1, count - 1, 1L), 0);
        Check.illegal("commit beyond the last of " + asked, () -> desk.commit(0, 0, 1, count, 1L));
        Check.due("share of all of " + asked, desk.share(0, 0), (1 << count) - 1);
    }

    private static void soManyLogs() {
        for (int logs = 1; logs <= 8; logs++) {
            countOfLogs(logs, logs);
        }
    }

    private static void belowOne() {
        countOfLogs(0, 1);
        countOfLogs(-1, 1);
        countOfLogs(Integer.MIN_VALUE, 1);
    }

    private static void aboveEight() {
        countOfLogs(9, 8);
        countOfLogs(Integer.MAX_VALUE, 8);
    }

    private static void allGroupsAreEmpty() {
        GroupDesk desk = new GroupDesk(8);
        for (int group = 0; group < 8; group++) {
            for (int what = 1; what <= 4; what++) {
                Check.due("group(" + group + ", " + what + ")", desk.group(group, what), 0);
            }
            for (int member = 0; member < 8; member++) {
                Check.due("share(" + group + ", " + member + ")", desk.share(group, member), 0);
                Check.due("leave(" + group + ", " + member + ")", desk.leave(group, member), -8);
            }
        }
        Check.due("restart", desk.restart(), 0);
    }

    private static void nothingIsCommitted() {
        GroupDesk desk = new GroupDesk(8);
        for (int group = 0; group < 8; group++) {
            for (int log = 0; log < 8; log++) {
                Check.due("committed(" + group + ", " + log + ")", desk.committed(group, log), -1);
            }
        }
        Check.due("notes", desk.notes(), 0);
    }

    private static void timeAtFirst() {
        Check.due("the first tick", new GroupDesk(1).ticks(1), 1);
    }

    private static void generationAtFirst() {
        GroupDesk desk = new GroupDesk(8);
        for (int group = 0; group < 8; group++) {
            Check.due("group(" + group + ", 0)", desk.group(group, 0), 0);
        }
    }

    private static void roomAtFirst() {
        Check.due("room", new GroupDesk(1).room(1), 1000);
    }

    private static void constants() {
        Check.due("NONE", GroupDesk.NONE, -1);
        Check.due("FULL", GroupDesk.FULL, -2);
        Check.due("STRANGER", GroupDesk.STRANGER, -8);
        Check.due("OLD", GroupDesk.OLD, -9);
        Check.due("MIXED", GroupDesk.MIXED, -10);
        Check.due("FOREIGN", GroupDesk.FOREIGN, -11);
    }

    private static void objectsAreApart() {
        GroupDesk used = Desks.after(Desks::full);
        GroupDesk desk = new GroupDesk(8);
        Check.due("members", desk.group(0, 2), 0);
        Check.due("generation", desk.group(0, 0), 0);
        Check.due("committed", desk.committed(0, 1), -1);
        Check.due("notes", desk.notes(), 0);
        Check.due("room", desk.room(1000), 1000);
        Check.due("time", desk.ticks(1), 1);
        Check.due("the other's log 3", desk.committed(0, 3), -1);
        Check.due("the other's members", used.group(0, 2), 10);
    }
}
