/** Promise 7: group. */
public final class GroupTest {
    public static void main(String[] args) {
        Check.test("what = 0 its generation", GroupTest::generation);
        Check.test("1 whether it is empty (0), mixing (1) or stable (2)", GroupTest::state);
        Check.test("2 its members", GroupTest::members);
        Check.test("3 those who have joined", GroupTest::joined);
        Check.test("of one that is stable all", GroupTest::joinedOfAStableGroup);
        Check.test("2 to the power of each, together", GroupTest::powersOfTwo);
        Check.test("4 how many ticks its limit is away", GroupTest::limit);
        Check.test("0 if it is not mixing", GroupTest::noLimit);
        Check.test("or over", GroupTest::limitOver);
        Check.test("asking changes nothing", GroupTest::askingChangesNothing);
        Check.test("Illegal argument, which changes nothing", GroupTest::illegalArgument);
        Check.test("also if what is none of these", GroupTest::noneOfThese);
        Check.done();
    }

    private static void generation() {
        GroupDesk desk = new GroupDesk(8);
        Check.due("at first", desk.group(5, 0), 0);
        desk.join(5, 6);
        Check.due("stable", desk.group(5, 0), 1);
        desk.join(5, 0);
        Check.due("mixing", desk.group(5, 0), 1);
        desk.ticks(20);
        Check.due("stable anew", desk.group(5, 0), 2);
        desk.leave(5, 0);
        Check.due("empty", desk.group(5, 0), 2);
        Check.due("of another", desk.group(4, 0), 0);
    }

    private static void state() {
        GroupDesk desk = new GroupDesk(8);
        Check.due("at first", desk.group(5, 1), 0);
        desk.join(5, 6);
        Check.due("stable", desk.group(5, 1), 2);
        desk.join(5, 0);
        Check.due("mixing", desk.group(5, 1), 1);
        desk.ticks(20);
        Check.due("stable anew", desk.group(5, 1), 2);
        desk.leave(5, 0);
        Check.due("empty", desk.group(5, 1), 0);
        Check.due("of another", desk.group(4, 1), 0);
    }

    private static void members() {
        GroupDesk desk = new GroupDesk(8);
        Check.due("at first", desk.group(5, 2), 0);
        desk.join(5, 6);
        Check.due("stable", desk.group(5, 2), 64);
        desk.join(5, 0);
        Check.due("mixing", desk.group(5, 2), 65);
        desk.ticks(20);
        Check.due("stable anew", desk.group(5, 2), 1);
        desk.leave(5, 0);
        Check.due("empty", desk.group(5, 2), 0);
        Check.due("of another", desk.group(4, 2), 0);
    }

    private static void joined() {
        GroupDesk desk = Desks.after(Desks::mixing);
        Check.due("one of three", desk.group(0, 3), 16);
        desk.join(0, 1);
        Check.due("two of three", desk.group(0, 3), 18);
        Check.due("of an empty group", desk.group(1, 3), 0);
        GroupDesk left = Desks.after(Desks::stable);
        left.leave(0, 1);
        Check.due("none of one", left.group(0, 3), 0);
    }

    private static void joinedOfAStableGroup() {
        GroupDesk desk = Desks.after(Desks::mixing);
        desk.ticks(15);
        Check.due("after the limit", desk.group(0, 3), 16);
        Check.due("after the last join", Desks.after(Desks::stable).group(0, 3), 10);
    }

    private static void powersOfTwo() {
        int members = 0;
        GroupDesk desk = new GroupDesk(8);
        for (int member = 0; member < 8; member++) {
            desk.join(0, member);
            members += 1 << member;
            Check.due("members up to " + member, desk.group(0, 2), members);
            Check.due("joined up to " + member, desk.group(0, 3), member == 0 ? 1 : members - 1);
        }
    }

    private static void limit() {
        GroupDesk desk = Desks.after(Desks::stable);
        desk.join(0, 4);
        for (int away = 20; away > 0; away--) {
            Check.due("limit", desk.group(0, 4), away);
            desk.ticks(1);
        }
        Check.due("at the limit", desk.group(0, 4), 0);
    }

    private static void noLimit() {
        GroupDesk desk = Desks.after(Desks::mixing);
        Check.due("of an empty group", desk.group(1, 4), 0);
        desk.join(0, 1);
        desk.join(0, 3);
        Check.due("of a stable group", desk.group(0, 4), 0);
        desk.join(0, 1);
        Check.due("of one that mixes anew", desk.group(0, 4), 20);
        desk.restart();
        Check.due("after a restart", desk.group(0, 4), 0);
    }

    private static void limitOver() {
        GroupDesk desk = Desks.after(Desks::mixing);
        desk.room(0);
        desk.ticks(14);
        Check.due("a tick before the limit", desk.group(0, 4), 1);
        desk.ticks(1);
        Check.due("at the limit", desk.group(0, 4), 0);
        desk.ticks(1);
        Check.due("a tick past the limit", desk.group(0, 4), 0);
        desk.ticks(200);
        Check.due("far past the limit", desk.group(0, 4), 0);
        Check.due("it is mixing yet", desk.group(0, 1), 1);
    }

    private static void askingChangesNothing() {
        int[] wants = {2, 1, 26, 16, 0};
        for (int what = 0; what <= 4; what++) {
            int asked = what;
            Twins.unchanged("group(0, " + what + ")", Desks::waiting, desk -> desk.group(0, asked), wants[what]);
        }
    }

    private static void illegalArgument() {
        for (int what = 0; what <= 4; what++) {
            int asked = what;
            Twins.illegalGroupOrMember("group(group, " + what + ")", (desk, number) -> desk.group(number, asked));
        }
    }

    private static void noneOfThese() {
        int[] wrong = {Integer.MIN_VALUE, -1, 5, 6, 8, 32, Integer.MAX_VALUE};
        Twins.illegal("group(0, what)", wrong, (desk, number) -> desk.group(0, number));
        Twins.illegal("group(8, 5)", desk -> desk.group(8, 5));
    }
}
