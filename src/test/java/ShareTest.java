/** Promise 8: share. */
public final class ShareTest {
    public static void main(String[] args) {
        everySetOfMembers();
        moreMembersThanLogs();
        notStable();
        wrongArguments();
        Check.done();
    }

    private static void everySetOfMembers() {
        for (int members = 1; members < 256; members++) {
            for (int logs = 1; logs <= 8; logs += 1) {
                everyShare(members, logs);
            }
        }
    }

    private static GroupDesk stableOf(int members, int logs) {
        GroupDesk desk = new GroupDesk(logs);
        for (int round = 0; round < 2; round++) {
            for (int member = 0; member < 8; member++) {
                if ((members >> member & 1) == 1 && desk.group(0, 3) != members) {
                    desk.join(0, member);
                }
            }
        }
        Check.due("the group made of " + members, desk.group(0, 1) * 1000 + desk.group(0, 2), 2000 + members);
        return desk;
    }

    private static void everyShare(int members, int logs) {
        GroupDesk desk = stableOf(members, logs);
        int count = Integer.bitCount(members);
        int place = 0;
        for (int member = 0; member < 8; member++) {
            int want = 0;
            if ((members >> member & 1) == 1) {
                for (int log = place; log < logs; log += count) {
                    want += 1 << log;
                }
                place++;
            }
            Check.due("share of " + member + " of " + members + ", logs " + logs, desk.share(0, member), want);
        }
    }

    private static void moreMembersThanLogs() {
        GroupDesk desk = stableOf(0b10101010, 2);
        Check.due("share of 1", desk.share(0, 1), 1);
        Check.due("share of 3", desk.share(0, 3), 2);
        Check.due("share of 5", desk.share(0, 5), 0);
        Check.due("commit of one without a share", desk.commit(0, 5, desk.group(0, 0), 0, 1L), -11);
        Check.due("share of no member", desk.share(0, 0), 0);
        Check.due("share in another group", desk.share(1, 1), 0);
    }

    private static void notStable() {
        GroupDesk desk = stableOf(3, 8);
        Check.due("share of 0", desk.share(0, 0), 0b01010101);
        desk.join(0, 0);
        Check.due("share of one who has joined a mixing group", desk.share(0, 0), 0);
        Check.due("share of one who has not", desk.share(0, 1), 0);
        desk.restart();
        Check.due("share in an empty group", desk.share(0, 0), 0);
    }

    private static void wrongArguments() {
        GroupDesk desk = new GroupDesk(8);
        int[] wrong = {Integer.MIN_VALUE, -1, 8, 32, Integer.MAX_VALUE};
        for (int number : wrong) {
            Check.illegal("share(" + number + ", 0)", () -> desk.share(number, 0));
            Check.illegal("share(0, " + number + ")", () -> desk.share(0, number));
        }
    }
}
