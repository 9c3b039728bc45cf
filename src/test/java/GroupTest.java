/** Promise 7: group. */
public final class GroupTest {
    public static void main(String[] args) {
        aWholeRound();
        theLimitWhenItIsOver();
        wrongArguments();
        Check.done();
    }

    private static void due(String when, GroupDesk desk, int... wants) {
        for (int what = 0; what < wants.length; what++) {
            Check.due(when + ": group(5, " + what + ")", desk.group(5, what), wants[what]);
        }
    }

    private static void aWholeRound() {
        GroupDesk desk = new GroupDesk(8);
        due("at first", desk, 0, 0, 0, 0, 0);
        desk.join(5, 6);
        due("stable", desk, 1, 2, 64, 64, 0);
        desk.join(5, 0);
        due("mixing", desk, 1, 1, 65, 1, 20);
        desk.ticks(19);
        due("a tick before the limit", desk, 1, 1, 65, 1, 1);
        desk.ticks(1);
        due("at the limit", desk, 2, 2, 1, 1, 0);
        desk.leave(5, 0);
        due("empty", desk, 2, 0, 0, 0, 0);
        desk.join(5, 7);
        desk.join(5, 1);
        desk.join(5, 7);
        due("stable anew", desk, 4, 2, 130, 130, 0);
        Check.due("another group", desk.group(4, 2), 0);
    }

    private static void theLimitWhenItIsOver() {
        GroupDesk desk = new GroupDesk(8);
        desk.room(0);
        desk.join(5, 2);
        due("no room", desk, 0, 1, 4, 4, 20);
        desk.ticks(20);
        due("no room at the limit", desk, 0, 1, 4, 4, 0);
        desk.ticks(1);
        due("no room past the limit", desk, 0, 1, 4, 4, 0);
        desk.join(5, 3);
        due("a join past the limit sets no new one", desk, 0, 1, 12, 12, 0);
    }

    private static void wrongArguments() {
        GroupDesk desk = new GroupDesk(8);
        int[] wrong = {Integer.MIN_VALUE, -1, 8, Integer.MAX_VALUE};
        for (int number : wrong) {
            Check.illegal("group(" + number + ", 0)", () -> desk.group(number, 0));
            Check.illegal("group(0, " + number + ")", () -> desk.group(0, number));
        }
        Check.illegal("group(0, 5)", () -> desk.group(0, 5));
    }
}
