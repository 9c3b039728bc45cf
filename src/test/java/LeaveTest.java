/** Promise 3: leave. */
public final class LeaveTest {
    public static void main(String[] args) {
        theLastOneLeavesItEmpty();
        aStableGroupMixes();
        theOneWaitedForLeaves();
        theLastOneOfAMixingGroupLeaves();
        noneLeftHaveJoined();
        withoutRoom();
        wrongArguments();
        Check.done();
    }

    private static GroupDesk stableOf(int count) {
        GroupDesk desk = new GroupDesk(8);
        for (int member = 0; member < count; member++) {
            desk.join(0, member);
        }
        for (int member = 0; member < count - 1; member++) {
            desk.join(0, member);
        }
        Check.due("state of the group made", desk.group(0, 1), 2);
        return desk;
    }

    private static void theLastOneLeavesItEmpty() {
        GroupDesk desk = new GroupDesk(8);
        Check.due("leave of none", desk.leave(0, 0), -8);
        desk.join(0, 0);
        Check.due("leave of another", desk.leave(0, 1), -8);
        Check.due("a stranger's leave mixes nothing", desk.group(0, 1), 2);
        Check.due("leave of the last", desk.leave(0, 0), 1);
        Check.due("state", desk.group(0, 1), 0);
        Check.due("generation stays", desk.group(0, 0), 1);
        Check.due("no note", desk.notes(), 1);
        Check.due("leave again", desk.leave(0, 0), -8);
    }

    private static void aStableGroupMixes() {
        GroupDesk desk = stableOf(2);
        int generation = desk.group(0, 0);
        desk.ticks(3);
        Check.due("leave", desk.leave(0, 0), 1);
        Check.due("state", desk.group(0, 1), 1);
        Check.due("members", desk.group(0, 2), 2);
        Check.due("none has joined", desk.group(0, 3), 0);
        Check.due("limit", desk.group(0, 4), 20);
        Check.due("join of the other", desk.join(0, 1), generation + 1);
    }

    private static void theOneWaitedForLeaves() {
        GroupDesk desk = new GroupDesk(8);
        desk.join(0, 0);
        desk.join(0, 1);
        Check.due("leave of the one who had not joined", desk.leave(0, 0), 1);
        Check.due("state", desk.group(0, 1), 2);
        Check.due("generation", desk.group(0, 0), 2);
        Check.due("members", desk.group(0, 2), 2);
    }

    private static void theLastOneOfAMixingGroupLeaves() {
        GroupDesk desk = stableOf(2);
        desk.leave(0, 0);
        int before = desk.notes();
        Check.due("leave", desk.leave(0, 1), 1);
        Check.due("state", desk.group(0, 1), 0);
        Check.due("notes", desk.notes(), before);
    }

    private static void noneLeftHaveJoined() {
        GroupDesk desk = new GroupDesk(8);
        desk.join(0, 0);
        desk.join(0, 1);
        Check.due("leave of the only one that had joined", desk.leave(0, 1), 1);
        Check.due("state", desk.group(0, 1), 1);
        Check.due("members", desk.group(0, 2), 1);
        Check.due("joined", desk.group(0, 3), 0);
        desk.room(0);
        desk.ticks(20);
        Check.due("without any it is empty, and needs no room", desk.group(0, 1), 0);
    }

    private static void withoutRoom() {
        GroupDesk desk = new GroupDesk(8);
        desk.join(0, 0);
        desk.join(0, 1);
        desk.join(0, 2);
        desk.room(0);
        Check.due("leave without room", desk.leave(0, 0), 1);
        Check.due("state", desk.group(0, 1), 1);
        Check.due("joined", desk.group(0, 3), 6);
        desk.room(1);
        Check.due("leave with room", desk.leave(0, 2), 1);
        Check.due("the leave tried again", desk.group(0, 1), 2);
        Check.due("generation", desk.group(0, 0), 2);

        GroupDesk late = new GroupDesk(8);
        late.join(0, 0);
        late.join(0, 1);
        late.join(0, 2);
        late.room(0);
        late.ticks(30);
        late.room(5);
        Check.due("leave of one past the limit", late.leave(0, 2), 1);
        Check.due("the late are none", late.group(0, 2), 2);
        Check.due("state past the limit", late.group(0, 1), 2);
    }

    private static void wrongArguments() {
        GroupDesk desk = stableOf(1);
        int[] wrong = {Integer.MIN_VALUE, -1, 8, 32, Integer.MAX_VALUE};
        for (int number : wrong) {
            Check.illegal("leave(" + number + ", 0)", () -> desk.leave(number, 0));
            Check.illegal("leave(0, " + number + ")", () -> desk.leave(0, number));
        }
        Check.due("a leave that throws changes nothing", desk.group(0, 2), 1);
    }
}
