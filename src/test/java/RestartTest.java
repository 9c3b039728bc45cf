/** Promise 10: restart. */
public final class RestartTest {
    public static void main(String[] args) {
        Check.test("all groups are empty", RestartTest::allGroupsAreEmpty);
        Check.test("generations stay", RestartTest::generationsStay);
        Check.test("what was committed stays", RestartTest::committedStays);
        Check.test("TIME, room and notes stay", RestartTest::theRestStays);
        Check.test("How many members there were", RestartTest::howManyMembers);
        Check.test("How many members there were: none", RestartTest::noMembers);
        Check.test("How many members there were: all 64", RestartTest::allMembers);
        Check.test("a group begins anew after it", RestartTest::beginsAnew);
        Check.test("without room all groups are empty too", RestartTest::withoutRoom);
        Check.done();
    }

    private static GroupDesk stableAndMixing() {
        GroupDesk desk = Desks.after(Desks::stable);
        desk.join(7, 0);
        desk.join(7, 1);
        desk.join(7, 2);
        return desk;
    }

    private static void empty(GroupDesk desk) {
        for (int group = 0; group < 8; group++) {
            for (int what = 1; what <= 4; what++) {
                Check.due("group(" + group + ", " + what + ")", desk.group(group, what), 0);
            }
            for (int member = 0; member < 8; member++) {
                Check.due("share(" + group + ", " + member + ")", desk.share(group, member), 0);
            }
        }
        Check.due("a beat after it", desk.beat(0, 1, desk.group(0, 0)), -8);
        Check.due("a leave after it", desk.leave(0, 1), -8);
    }

    private static void allGroupsAreEmpty() {
        GroupDesk desk = stableAndMixing();
        desk.restart();
        empty(desk);
        GroupDesk full = new GroupDesk(8);
        for (int group = 0; group < 8; group++) {
            full.join(group, group);
        }
        full.restart();
        empty(full);
    }

    private static void generationsStay() {
        GroupDesk desk = stableAndMixing();
        desk.restart();
        Check.due("of the stable one", desk.group(0, 0), 2);
        Check.due("of the mixing one", desk.group(7, 0), 1);
        Check.due("of an empty one", desk.group(3, 0), 0);
        Check.due("the next of the stable one", desk.join(0, 5), 3);
        Check.due("the next of the mixing one", desk.join(7, 5), 2);
        Check.due("the first of the empty one", desk.join(3, 5), 1);
    }

    private static void committedStays() {
        GroupDesk desk = stableAndMixing();
        desk.restart();
        Check.due("committed", desk.committed(0, 1), 77);
        Check.due("nothing was committed", desk.committed(0, 0), -1);
        Check.due("nor by another group", desk.committed(7, 1), -1);
    }

    private static void theRestStays() {
        GroupDesk desk = stableAndMixing();
        desk.room(6);
        desk.restart();
        Check.due("notes", desk.notes(), 4);
        Check.due("room", desk.room(1), 6);
        Check.due("time", desk.ticks(1), 11);
    }

    private static void howManyMembers() {
        Check.due("2 of a stable group, 3 of a mixing one", stableAndMixing().restart(), 5);
        Check.due("those who have joined, or not", Desks.after(Desks::mixing).restart(), 3);
        GroupDesk desk = new GroupDesk(1);
        desk.join(0, 4);
        desk.join(1, 4);
        Check.due("the same one of two groups", desk.restart(), 2);
    }

    private static void noMembers() {
        Check.due("of a new object", new GroupDesk(1).restart(), 0);
        GroupDesk desk = stableAndMixing();
        desk.restart();
        Check.due("restart again", desk.restart(), 0);
        Twins.unchanged("restart of nothing", Desks::fresh, GroupDesk::restart, 0);
    }

    private static void allMembers() {
        GroupDesk desk = new GroupDesk(1);
        for (int group = 0; group < 8; group++) {
            for (int member = 0; member < 8; member++) {
                desk.join(group, member);
            }
        }
        Check.due("restart", desk.restart(), 64);
    }

    private static void beginsAnew() {
        GroupDesk desk = Desks.after(Desks::mixing);
        desk.restart();
        desk.room(0);
        desk.ticks(3);
        Check.due("join without room", desk.join(0, 6), -1);
        Check.due("members", desk.group(0, 2), 64);
        Check.due("joined", desk.group(0, 3), 64);
        Check.due("limit", desk.group(0, 4), 20);
        desk.restart();
        desk.room(1);
        desk.ticks(40);
        Check.due("nothing is tried again", desk.group(0, 0), 2);
        Check.due("state", desk.group(0, 1), 0);
    }

    private static void withoutRoom() {
        GroupDesk desk = Desks.after(Desks::stuck);
        Check.due("restart", desk.restart(), 3);
        empty(desk);
        Check.due("notes", desk.notes(), 3);
    }
}
