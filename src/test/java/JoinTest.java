/** Promise 2: join. */
public final class JoinTest {
    public static void main(String[] args) {
        aloneItSettlesAtOnce();
        allMustJoinAnew();
        aMemberMixesAStableGroup();
        withoutRoomItGoesOnMixing();
        pastTheLimitAJoinSettlesWithoutTheLate();
        heardByJoining();
        wrongArguments();
        Check.done();
    }

    private static void aloneItSettlesAtOnce() {
        GroupDesk desk = new GroupDesk(2);
        Check.due("join of the first", desk.join(7, 7), 1);
        Check.due("state", desk.group(7, 1), 2);
        Check.due("members", desk.group(7, 2), 128);
        Check.due("another group's generation", desk.group(6, 0), 0);
        Check.due("join of another group", desk.join(6, 0), 1);
    }

    private static void allMustJoinAnew() {
        GroupDesk desk = new GroupDesk(2);
        desk.join(0, 0);
        Check.due("join of a second", desk.join(0, 1), -1);
        Check.due("state", desk.group(0, 1), 1);
        Check.due("members", desk.group(0, 2), 3);
        Check.due("joined", desk.group(0, 3), 2);
        Check.due("limit", desk.group(0, 4), 20);
        desk.ticks(5);
        Check.due("join of a third", desk.join(0, 2), -1);
        Check.due("a join of a mixing group leaves its limit", desk.group(0, 4), 15);
        Check.due("join again while mixing", desk.join(0, 1), -1);
        Check.due("joined of three", desk.group(0, 3), 6);
        Check.due("join of the last", desk.join(0, 0), 2);
        Check.due("state of the settled", desk.group(0, 1), 2);
        Check.due("limit of the settled", desk.group(0, 4), 0);
    }

    private static void aMemberMixesAStableGroup() {
        GroupDesk desk = new GroupDesk(2);
        desk.join(0, 0);
        Check.due("join of the only member again", desk.join(0, 0), 2);
        desk.join(0, 1);
        desk.join(0, 0);
        Check.due("join of a member of a stable group of two", desk.join(0, 0), -1);
        Check.due("joined", desk.group(0, 3), 1);
        Check.due("members", desk.group(0, 2), 3);
    }

    private static void withoutRoomItGoesOnMixing() {
        GroupDesk desk = new GroupDesk(2);
        desk.room(0);
        Check.due("join without room", desk.join(0, 4), -1);
        Check.due("generation", desk.group(0, 0), 0);
        Check.due("state", desk.group(0, 1), 1);
        Check.due("joined", desk.group(0, 3), 16);
        desk.room(1);
        Check.due("only a tick, join or leave tries again", desk.group(0, 1), 1);
        Check.due("join with room", desk.join(0, 4), 1);
        Check.due("the room is used up", desk.room(9), 0);
    }

    private static void pastTheLimitAJoinSettlesWithoutTheLate() {
        GroupDesk desk = new GroupDesk(2);
        desk.join(0, 0);
        desk.join(0, 1);
        desk.room(0);
        desk.ticks(40);
        Check.due("the late are members yet", desk.group(0, 2), 3);
        desk.room(5);
        Check.due("join of a third past the limit", desk.join(0, 2), 2);
        Check.due("the late are none", desk.group(0, 2), 6);
    }

    private static void heardByJoining() {
        GroupDesk desk = new GroupDesk(2);
        desk.join(0, 0);
        desk.ticks(29);
        Check.due("join again", desk.join(0, 0), 2);
        desk.ticks(29);
        Check.due("members", desk.group(0, 2), 1);
        desk.ticks(1);
        Check.due("members, 30 ticks after the join", desk.group(0, 2), 0);
    }

    private static void wrongArguments() {
        GroupDesk desk = new GroupDesk(2);
        desk.join(0, 0);
        int[] wrong = {Integer.MIN_VALUE, -1, 8, Integer.MAX_VALUE};
        for (int number : wrong) {
            Check.illegal("join(" + number + ", 0)", () -> desk.join(number, 0));
            Check.illegal("join(0, " + number + ")", () -> desk.join(0, number));
        }
        Check.due("a join that throws mixes nothing", desk.group(0, 1), 2);
        Check.due("generation", desk.group(0, 0), 1);
    }
}
