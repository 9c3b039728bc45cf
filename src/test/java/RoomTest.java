/** Promise 9: room. */
public final class RoomTest {
    public static void main(String[] args) {
        Check.test("There is room for n more notes from now on", RoomTest::forSoManyMore);
        Check.test("for how many there was", RoomTest::forHowManyThereWas);
        Check.test("the least room, 0: there is none", RoomTest::none);
        Check.test("the greatest room, 100000", RoomTest::greatest);
        Check.test("the room is one for all groups", RoomTest::oneForAllGroups);
        Check.test("new room alone tries nothing again", RoomTest::triesNothing);
        Check.test("Illegal argument: n is not 0 .. 100000", RoomTest::illegalArgument);
        Check.done();
    }

    private static void forSoManyMore() {
        GroupDesk desk = new GroupDesk(1);
        desk.join(0, 0);
        desk.join(0, 0);
        desk.room(3);
        for (int i = 0; i < 3; i++) {
            Check.due("commit " + i, desk.commit(0, 0, 2, 0, i), 0);
        }
        Check.due("one too many", desk.commit(0, 0, 2, 0, 3L), -2);
        desk.room(2);
        Check.due("commit, there is room anew", desk.commit(0, 0, 2, 0, 4L), 0);
        Check.due("a generation", desk.join(0, 0), 3);
        Check.due("a generation too many", desk.join(0, 0), -1);
    }

    private static void forHowManyThereWas() {
        GroupDesk desk = new GroupDesk(1);
        Check.due("at first", desk.room(5), 1000);
        Check.due("nothing was noted", desk.room(5), 5);
        desk.join(0, 0);
        desk.commit(0, 0, 1, 0, 1L);
        Check.due("two were noted", desk.room(9), 3);
        Check.due("it is not added to", desk.room(1), 9);
    }

    private static void none() {
        GroupDesk desk = new GroupDesk(1);
        Check.due("room(0)", desk.room(0), 1000);
        Check.due("a join", desk.join(0, 0), -1);
        Check.due("there was none, nor is there less", desk.room(0), 0);
        desk.ticks(5);
        Check.due("nor after ticks", desk.room(1), 0);
        Check.due("room for one", desk.join(0, 0), 1);
        Check.due("none again", desk.join(0, 0), -1);
    }

    private static void greatest() {
        GroupDesk desk = new GroupDesk(1);
        Check.due("room(100000)", desk.room(100000), 1000);
        desk.join(0, 0);
        Check.due("room(100000) again", desk.room(100000), 99999);
        Check.due("room(99999)", desk.room(99999), 100000);
    }

    private static void oneForAllGroups() {
        GroupDesk desk = new GroupDesk(1);
        desk.room(2);
        Check.due("join of 6", desk.join(6, 0), 1);
        Check.due("commit of 6", desk.commit(6, 0, 1, 0, 3L), 0);
        Check.due("join of 2", desk.join(2, 0), -1);
        Check.due("commit of 6 again", desk.commit(6, 0, 1, 0, 4L), -2);
    }

    private static void triesNothing() {
        Twins.unchanged("room(5)", Desks::waiting, desk -> desk.room(5), 5);
        GroupDesk desk = Desks.after(Desks::stuck);
        desk.room(100000);
        Check.due("state", desk.group(0, 1), 1);
        Check.due("generation", desk.group(0, 0), 2);
        Check.due("notes", desk.notes(), 3);
        Check.due("room", desk.room(1), 100000);
    }

    private static void illegalArgument() {
        int[] wrong = {Integer.MIN_VALUE, -1000, -1, 100001, 200000, Integer.MAX_VALUE};
        Twins.illegal("room(n)", wrong, (desk, number) -> desk.room(number));
    }
}
