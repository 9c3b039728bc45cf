/** Promise 12: notes. */
public final class NotesTest {
    public static void main(String[] args) {
        Check.test("How many notes there were: none", NotesTest::none);
        Check.test("a note of each generation", NotesTest::ofGenerations);
        Check.test("a note of each commit", NotesTest::ofCommits);
        Check.test("there is none where it is refused", NotesTest::refused);
        Check.test("there is none where a group is empty", NotesTest::empty);
        Check.test("there is none while there is no room", NotesTest::withoutRoom);
        Check.test("notes of all groups count together", NotesTest::together);
        Check.test("neither room nor restart takes them away", NotesTest::stay);
        Check.test("asking changes nothing", NotesTest::askingChangesNothing);
        Check.done();
    }

    private static void none() {
        GroupDesk desk = new GroupDesk(1);
        Check.due("at first", desk.notes(), 0);
        desk.ticks(200);
        desk.room(5);
        desk.restart();
        desk.leave(0, 0);
        desk.beat(0, 0, 0);
        Check.due("nothing to note", desk.notes(), 0);
    }

    private static void ofGenerations() {
        GroupDesk desk = new GroupDesk(1);
        desk.join(0, 0);
        Check.due("the first", desk.notes(), 1);
        desk.join(0, 1);
        Check.due("while it mixes", desk.notes(), 1);
        desk.join(0, 0);
        Check.due("by a join", desk.notes(), 2);
        desk.join(0, 0);
        desk.leave(0, 1);
        Check.due("by a leave", desk.notes(), 3);
        desk.join(0, 1);
        desk.ticks(20);
        Check.due("by a tick", desk.notes(), 4);
    }

    private static void ofCommits() {
        GroupDesk desk = new GroupDesk(1);
        desk.join(0, 0);
        for (int i = 0; i < 5; i++) {
            desk.commit(0, 0, 1, 0, 9L);
            Check.due("commit " + i, desk.notes(), 2 + i);
        }
    }

    private static void refused() {
        GroupDesk desk = Desks.after(Desks::stable);
        desk.commit(0, 0, 2, 0, 5L);
        desk.commit(0, 1, 1, 0, 5L);
        desk.commit(0, 1, 2, 1, 5L);
        desk.room(0);
        desk.commit(0, 1, 2, 0, 5L);
        Check.illegal("commit of -1", () -> desk.commit(0, 1, 2, 0, -1L));
        Check.due("notes", desk.notes(), 3);
        Check.due("room", desk.room(1), 0);
    }

    private static void empty() {
        GroupDesk desk = Desks.after(Desks::stable);
        desk.leave(0, 1);
        desk.ticks(20);
        Check.due("state", desk.group(0, 1), 0);
        Check.due("notes", desk.notes(), 3);
        Check.due("room", desk.room(1), 997);
    }

    private static void withoutRoom() {
        GroupDesk desk = Desks.after(Desks::stuck);
        desk.join(0, 1);
        desk.join(0, 3);
        desk.leave(0, 4);
        desk.ticks(200);
        Check.due("notes", desk.notes(), 3);
        desk.room(1);
        desk.ticks(1);
        Check.due("notes with room", desk.notes(), 4);
    }

    private static void together() {
        GroupDesk desk = new GroupDesk(1);
        for (int group = 0; group < 8; group++) {
            desk.join(group, 0);
            desk.commit(group, 0, 1, 0, 1L);
        }
        Check.due("notes", desk.notes(), 16);
    }

    private static void stay() {
        GroupDesk desk = Desks.after(Desks::stable);
        desk.room(0);
        Check.due("after room(0)", desk.notes(), 3);
        desk.room(100000);
        Check.due("after room(100000)", desk.notes(), 3);
        desk.restart();
        Check.due("after a restart", desk.notes(), 3);
    }

    private static void askingChangesNothing() {
        Twins.unchanged("notes", Desks::waiting, GroupDesk::notes, 3);
    }
}
