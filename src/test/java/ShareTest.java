/** Promise 8: share. */
public final class ShareTest {
    public static void main(String[] args) {
        Check.test("log l is of the member that stands at l modulo (how many they are)", ShareTest::everySetOfMembers);
        Check.test("fewer logs than members: some have no share", ShareTest::fewerLogsThanMembers);
        Check.test("more logs than members: it begins again at the least", ShareTest::moreLogsThanMembers);
        Check.test("as many logs as members: one for each", ShareTest::asManyLogsAsMembers);
        Check.test("a member alone has them all", ShareTest::alone);
        Check.test("2 to the power of each log, together", ShareTest::powersOfTwo);
        Check.test("0 if the group is not stable", ShareTest::notStable);
        Check.test("or it is no member", ShareTest::noMember);
        Check.test("asking changes nothing", ShareTest::askingChangesNothing);
        Check.test("Illegal argument, which changes nothing", ShareTest::illegalArgument);
        Check.done();
    }

    private static GroupDesk stableOf(int members, int logs) {
        GroupDesk desk = new GroupDesk(logs);
        for (int round = 0; round < 2; round++) {
            for (int member = 0; member < 8; member++) {
                if ((members >> member & 1) == 1 && desk.group(0, 3) != members) {
                    desk.join(0, member);
                }
            }
        }
        Check.due("the group made of " + members, desk.group(0, 1) * 1000 + desk.group(0, 2), 2000 + members);
        return desk;
    }

    private static void everyShare(int members, int logs) {
        GroupDesk desk = stableOf(members, logs);
        int count = Integer.bitCount(members);
        int place = 0;
        for (int member = 0; member < 8; member++) {
            int want = 0;
            if ((members >> member & 1) == 1) {
                for (int log = place; log < logs; log += count) {
                    want += 1 << log;
                }
                place++;
            }
            Check.due("share of " + member + " of " + members + ", logs " + logs, desk.share(0, member), want);
        }
    }

    private static void everySetOfMembers() {
        for (int members = 1; members < 256; members++) {
            for (int logs = 1; logs <= 8; logs++) {
                everyShare(members, logs);
            }
        }
    }

    private static void fewerLogsThanMembers() {
        GroupDesk desk = stableOf(0b10101010, 2);
        Check.due("share of the first", desk.share(0, 1), 1);
        Check.due("share of the second", desk.share(0, 3), 2);
        Check.due("share of the third", desk.share(0, 5), 0);
        Check.due("share of the fourth", desk.share(0, 7), 0);
    }

    private static void moreLogsThanMembers() {
        GroupDesk desk = stableOf(0b01100100, 8);
        Check.due("share of the first", desk.share(0, 2), 0b01001001);
        Check.due("share of the second", desk.share(0, 5), 0b10010010);
        Check.due("share of the third", desk.share(0, 6), 0b00100100);
    }

    private static void asManyLogsAsMembers() {
        GroupDesk desk = stableOf(255, 8);
        for (int member = 0; member < 8; member++) {
            Check.due("share of " + member, desk.share(0, member), 1 << member);
        }
    }

    private static void alone() {
        for (int logs = 1; logs <= 8; logs++) {
            Check.due("share of 7, logs " + logs, stableOf(128, logs).share(0, 7), (1 << logs) - 1);
        }
    }

    private static void powersOfTwo() {
        GroupDesk desk = Desks.after(Desks::stable);
        Check.due("share of 1: logs 0 and 2", desk.share(0, 1), 5);
        Check.due("share of 3: log 1", desk.share(0, 3), 2);
    }

    private static void notStable() {
        GroupDesk desk = Desks.after(Desks::mixing);
        Check.due("of one who has joined a mixing group", desk.share(0, 4), 0);
        Check.due("of one who has not", desk.share(0, 1), 0);
        Check.due("of one past the limit, without room", Desks.after(Desks::stuck).share(0, 4), 0);
        desk.ticks(15);
        Check.due("of the one left, stable", desk.share(0, 4), 7);
        desk.restart();
        Check.due("in an empty group", desk.share(0, 4), 0);
    }

    private static void noMember() {
        GroupDesk desk = Desks.after(Desks::stable);
        int[] strangers = {0, 2, 4, 7};
        for (int member : strangers) {
            Check.due("share of " + member, desk.share(0, member), 0);
        }
        Check.due("share in another group", desk.share(1, 1), 0);
        desk.join(0, 3);
        desk.leave(0, 1);
        Check.due("of one who left", desk.share(0, 1), 0);
        Check.due("of the one left", desk.share(0, 3), 7);
    }

    private static void askingChangesNothing() {
        Twins.unchanged("share while mixing", Desks::waiting, desk -> desk.share(0, 4), 0);
        Twins.unchanged("share", Desks::stable, desk -> desk.share(0, 1), 5);
    }

    private static void illegalArgument() {
        Twins.illegalGroupOrMember("share(group, 3)", (desk, number) -> desk.share(number, 3));
        Twins.illegalGroupOrMember("share(0, member)", (desk, number) -> desk.share(0, number));
        Twins.illegal("share(8, -1)", desk -> desk.share(8, -1));
    }
}
