/** Promises 9 and 12: room and notes. */
public final class RoomTest {
    public static void main(String[] args) {
        whatThereWas();
        notesOfBothKinds();
        groupsShareTheRoom();
        wrongArguments();
        Check.done();
    }

    private static void whatThereWas() {
        GroupDesk desk = new GroupDesk(1);
        Check.due("room at first", desk.room(100000), 1000);
        Check.due("the greatest room", desk.room(0), 100000);
        Check.due("the least room", desk.room(7), 0);
        Check.due("room alone makes no note", desk.notes(), 0);
    }

    private static void notesOfBothKinds() {
        GroupDesk desk = new GroupDesk(1);
        desk.join(0, 0);
        Check.due("notes after a generation", desk.notes(), 1);
        desk.join(0, 1);
        Check.due("notes while mixing", desk.notes(), 1);
        desk.join(0, 0);
        Check.due("notes after two generations", desk.notes(), 2);
        desk.commit(0, 0, 2, 0, 9L);
        Check.due("notes after a commit", desk.notes(), 3);
        desk.commit(0, 1, 2, 0, 9L);
        Check.due("notes after a refused commit", desk.notes(), 3);
        Check.due("room after three notes", desk.room(1000), 997);
        Check.due("a new room keeps the count of notes", desk.notes(), 3);
    }

    private static void groupsShareTheRoom() {
        GroupDesk desk = new GroupDesk(1);
        desk.room(0);
        desk.join(6, 0);
        desk.join(2, 0);
        desk.join(4, 0);
        desk.room(2);
        desk.ticks(1);
        Check.due("the first in the row", desk.group(2, 1), 2);
        Check.due("the second", desk.group(4, 1), 2);
        Check.due("there was none for the third", desk.group(6, 1), 1);
        Check.due("room", desk.room(1), 0);
        Check.due("a commit uses it too", desk.commit(2, 0, 1, 0, 3L), 0);
        desk.ticks(1);
        Check.due("so there is none again", desk.group(6, 1), 1);
        desk.room(1);
        desk.ticks(1);
        Check.due("at last", desk.group(6, 1), 2);
        Check.due("notes", desk.notes(), 4);
    }

    private static void wrongArguments() {
        GroupDesk desk = new GroupDesk(1);
        int[] wrong = {Integer.MIN_VALUE, -1, 100001, Integer.MAX_VALUE};
        for (int number : wrong) {
            Check.illegal("room(" + number + ")", () -> desk.room(number));
        }
        Check.due("a room that throws changes nothing", desk.room(3), 1000);
    }
}
