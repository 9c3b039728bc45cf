/** Promise 1, and the constants. */
public final class NewObjectTest {
    public static void main(String[] args) {
        constants();
        countOfLogs(Integer.MIN_VALUE, 1);
        countOfLogs(-1, 1);
        countOfLogs(0, 1);
        for (int logs = 1; logs <= 8; logs++) {
            countOfLogs(logs, logs);
        }
        countOfLogs(9, 8);
        countOfLogs(Integer.MAX_VALUE, 8);
        allIsEmpty();
        Check.done();
    }

    private static void constants() {
        Check.due("NONE", GroupDesk.NONE, -1);
        Check.due("FULL", GroupDesk.FULL, -2);
        Check.due("STRANGER", GroupDesk.STRANGER, -8);
        Check.due("OLD", GroupDesk.OLD, -9);
        Check.due("MIXED", GroupDesk.MIXED, -10);
        Check.due("FOREIGN", GroupDesk.FOREIGN, -11);
    }

    private static void countOfLogs(int asked, int count) {
        GroupDesk desk = new GroupDesk(asked);
        Check.due("committed of the last of " + asked, desk.committed(0, count - 1), -1);
        Check.illegal("committed beyond the last of " + asked, () -> desk.committed(0, count));
        desk.join(0, 0);
        Check.due("share of all of " + asked, desk.share(0, 0), (1 << count) - 1);
    }

    private static void allIsEmpty() {
        GroupDesk desk = new GroupDesk(8);
        for (int group = 0; group < 8; group++) {
            for (int what = 0; what <= 4; what++) {
                Check.due("group(" + group + ", " + what + ") at first", desk.group(group, what), 0);
            }
            for (int log = 0; log < 8; log++) {
                Check.due("committed(" + group + ", " + log + ") at first", desk.committed(group, log), -1);
            }
        }
        Check.due("notes() at first", desk.notes(), 0);
        Check.due("room at first", desk.room(1), 1000);
        Check.due("the first tick", desk.ticks(1), 1);
    }
}
